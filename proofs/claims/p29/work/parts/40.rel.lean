/-! what the class's objects have to do with the row of counts -/
theorem cq_C.imp {l : Launch} {y : MethodName} {ws : List Cond} {rm : Room} {D : va_G} {cA : Nat → ClassId} {X : cq_X} {Bs : Nat} {av : List Value} {M : cq_M} {P P' : Option Value → cq_M → Prop} {mc ms : Nat} (h : cq_C l y ws rm D cA X Bs av M P mc ms) (k : ∀ rv M1, P rv M1 → P' rv M1) : cq_C l y ws rm D cA X Bs av M P' mc ms := by
  unfold cq_C Met at h ⊢
  refine Jvm.Free.MetFree.mono h (fun _ _ h => h) (fun _ _ _ _ _ h => h) (fun a s o t _ hq => ?_)
  obtain ⟨⟨⟨rv, M1, h1, h2, h3⟩, h4⟩, h5⟩ := hq
  exact ⟨⟨⟨rv, M1, h1, k rv M1 h2, h3⟩, h4⟩, h5⟩
theorem cq_ifc {P Q : Prop} [Decidable P] [Decidable Q] {a b : Int32} (h : P ↔ Q) : (if P then a else b) = (if Q then a else b) := by
  by_cases hp : P
  · rw [if_pos hp, if_pos (h.mp hp)]
  · rw [if_neg hp, if_neg (fun z => hp (h.mpr z))]
theorem cq_C.impI {l : Launch} {y : MethodName} {ws : List Cond} {rm : Room} {D : va_G} {cA : Nat → ClassId} {X : cq_X} {Bs : Nat} {av : List Value} {M : cq_M} {P P' : Int32 → cq_M → Prop} {mc ms : Nat} (h : cq_C l y ws rm D cA X Bs av M (cq_PI P) mc ms) (k : ∀ r M1, P r M1 → P' r M1) : cq_C l y ws rm D cA X Bs av M (cq_PI P') mc ms :=
  h.imp (fun rv M1 hp => by obtain ⟨r, h1, h2⟩ := hp; exact ⟨r, h1, k r M1 h2⟩)
theorem cq_C.impV {l : Launch} {y : MethodName} {ws : List Cond} {rm : Room} {D : va_G} {cA : Nat → ClassId} {X : cq_X} {Bs : Nat} {av : List Value} {M : cq_M} {P P' : cq_M → Prop} {mc ms : Nat} (h : cq_C l y ws rm D cA X Bs av M (cq_PV P) mc ms) (k : ∀ M1, P M1 → P' M1) : cq_C l y ws rm D cA X Bs av M (cq_PV P') mc ms :=
  h.imp (fun rv M1 hp => ⟨hp.1, k M1 hp.2⟩)
def cr_cord (M : cq_M) (a : Nat) (g : Nat → Nat) (c : Nat) : Prop := M a 1 = nI (g (7 + 11 * c)) ∧ M a 2 = nI (ns_time g c) ∧ M a 3 = nI (g (14 + 11 * c)) ∧ M a 4 = nI (g (15 + 11 * c)) ∧ M a 5 = nI (g (16 + 11 * c) % 2) ∧ M a 6 = nI (g (16 + 11 * c) / 2) ∧ M a 7 = nI (g (17 + 11 * c)) ∧ ∀ k, k < g (7 + 11 * c) → M (a + 1) k = nI (g (8 + 11 * c + k))
def cr_rule (M : cq_M) (a : Nat) (g : Nat → Nat) (r : Nat) : Prop := M a 0 = nI (g (52 + 4 * r)) ∧ M a 1 = nI (g (53 + 4 * r)) ∧ M a 2 = nI (g (54 + 4 * r)) ∧ M a 3 = nI (g (55 + 4 * r))
def cr_book (M : cq_M) (a : Nat) (g : Nat → Nat) : Prop := M a 4 = nI (g 84) ∧ ∃ nx : Nat, nx < 8 ∧ M a 3 = nI nx ∧ ∀ i, i < g 84 → M (a + 1) ((nx + 7 - i) % 8) = nI (g (85 + 3 * i)) ∧ M (a + 2) ((nx + 7 - i) % 8) = nI (g (86 + 3 * i)) ∧ M (a + 3) ((nx + 7 - i) % 8) = nI (g (87 + 3 * i))
def cr_int (M : cq_M) (b : Nat) (g : Nat → Nat) : Prop := M b 1 = nI (g 6) ∧ M b 3 = nI (g 51) ∧ M b 5 = nI (g 0) ∧ M b 6 = nI (g 1) ∧ M b 7 = nI (g 2) ∧ M b 8 = nI (g 3) ∧ M b 9 = nI (g 4) ∧ M b 10 = nI (g 5)
def cr_01 (x : Int32) : Prop := x = 0 ∨ x = 1
def cr_bool (M : cq_M) (b : Nat) : Prop := (∀ c, c < 4 → cr_01 (M (b + 7 + 2 * c) 5) ∧ cr_01 (M (b + 7 + 2 * c) 6)) ∧ ∀ r, r < 8 → cr_01 (M (b + 15 + r) 2)
/-- the State at b holds the row g -/
def cr_st (M : cq_M) (b : Nat) (g : Nat → Nat) : Prop := cr_int M b g ∧ (∀ c, c < g 6 → cr_cord M (b + 7 + 2 * c) g c) ∧ (∀ r, r < g 51 → cr_rule M (b + 15 + r) g r) ∧ cr_book M (b + 3) g ∧ cr_bool M b
/-- nothing changed but in the n places from b on -/
def cr_fr (M M1 : cq_M) (b n : Nat) : Prop := ∀ x, (x < b ∨ b + n ≤ x) → M1 x = M x
theorem cr_fr.rf {M : cq_M} {b n : Nat} : cr_fr M M b n := fun _ _ => rfl
theorem cr_fr.trans {M M1 M2 : cq_M} {b n : Nat} (h : cr_fr M M1 b n) (h2 : cr_fr M1 M2 b n) : cr_fr M M2 b n := fun x hx => by rw [h2 x hx, h x hx]
theorem cr_fr.wide {M M1 : cq_M} {b n b2 n2 : Nat} (h : cr_fr M M1 b n) (h1 : b2 ≤ b) (h2 : b + n ≤ b2 + n2) : cr_fr M M1 b2 n2 := fun x hx => h x (by omega)
theorem cr_fr.up {M M1 M2 : cq_M} {b n a k : Nat} {v : Int32} (h : cr_fr M M1 b n) (h2 : M2 = cq_up M1 a k v) (h3 : b ≤ a) (h4 : a < b + n) : cr_fr M M2 b n := fun x hx => by rw [h2, cq_up_row (by omega), h x hx]
theorem cr_cord.ext {M M1 : cq_M} {a c : Nat} {g g' : Nat → Nat} (h : cr_cord M a g c) (hs : g (7 + 11 * c) ≤ 6) (h1 : M1 a = M a) (h2 : M1 (a + 1) = M (a + 1)) (e : ∀ k, 7 + 11 * c ≤ k → k < 18 + 11 * c → g k = g' k) : cr_cord M1 a g' c := by
  obtain ⟨q1, q2, q3, q4, q5, q6, q7, q8⟩ := h
  unfold cr_cord
  rw [h1, h2, ← ns_time_ext hs (fun k k1 k2 => e k k1 (by omega)), ← e (7 + 11 * c) (by omega) (by omega), ← e (14 + 11 * c) (by omega) (by omega), ← e (15 + 11 * c) (by omega) (by omega), ← e (16 + 11 * c) (by omega) (by omega), ← e (17 + 11 * c) (by omega) (by omega)]
  exact ⟨q1, q2, q3, q4, q5, q6, q7, fun k hk => by rw [← e (8 + 11 * c + k) (by omega) (by omega)]; exact q8 k hk⟩
theorem cr_rule.ext {M M1 : cq_M} {a r : Nat} {g g' : Nat → Nat} (h : cr_rule M a g r) (h1 : M1 a = M a) (e : ∀ k, 52 + 4 * r ≤ k → k < 56 + 4 * r → g k = g' k) : cr_rule M1 a g' r := by
  unfold cr_rule
  rw [h1, ← e (52 + 4 * r) (by omega) (by omega), ← e (53 + 4 * r) (by omega) (by omega), ← e (54 + 4 * r) (by omega) (by omega), ← e (55 + 4 * r) (by omega) (by omega)]
  exact h
theorem cr_book.ext {M M1 : cq_M} {a : Nat} {g g' : Nat → Nat} (h : cr_book M a g) (h1 : ∀ x, a ≤ x → x < a + 4 → M1 x = M x) (e : ∀ k, 84 ≤ k → g k = g' k) : cr_book M1 a g' := by
  obtain ⟨q1, nx, q2, q3, q4⟩ := h
  refine ⟨by rw [h1 _ (by omega) (by omega), ← e 84 (by omega)]; exact q1, nx, q2, by rw [h1 _ (by omega) (by omega)]; exact q3, fun i hi => ?_⟩
  rw [← e 84 (by omega)] at hi
  rw [h1 _ (by omega) (by omega), h1 _ (by omega) (by omega), h1 _ (by omega) (by omega), ← e (85 + 3 * i) (by omega), ← e (86 + 3 * i) (by omega), ← e (87 + 3 * i) (by omega)]
  exact q4 i hi
theorem cr_bool.ext {M M1 : cq_M} {b : Nat} (h : cr_bool M b) (h1 : ∀ x, b + 7 ≤ x → x < b + 23 → M1 x = M x) : cr_bool M1 b := by
  refine ⟨fun c hc => ?_, fun r hr => ?_⟩
  · rw [h1 _ (by omega) (by omega)]; exact h.1 c hc
  · rw [h1 _ (by omega) (by omega)]; exact h.2 r hr
/-- the ints of the State itself -/
theorem cr_st.ints {M M1 : cq_M} {b B : Nat} {g g' : Nat → Nat} (h : cr_st M b g) (hk : ns_ok g B) (hM : ∀ x, x ≠ b → M1 x = M x) (hi : cr_int M1 b g') (hg : ∀ k, 5 < k → g k = g' k) : cr_st M1 b g' := by
  obtain ⟨q1, q2, q3, q4, q5⟩ := h
  have h6 := hk.1
  refine ⟨hi, fun c hc => ?_, fun r hr => ?_, q4.ext (fun x k1 k2 => hM x (by omega)) (fun k hk => hg k (by omega)), q5.ext (fun x k1 k2 => hM x (by omega))⟩
  · rw [← hg 6 (by omega)] at hc
    exact (q2 c hc).ext (hk.2.2.2.1 c hc).1.2 (hM _ (by omega)) (hM _ (by omega)) (fun k k1 k2 => hg k (by omega))
  · rw [← hg 51 (by omega)] at hr
    exact (q3 r hr).ext (hM _ (by omega)) (fun k k1 k2 => hg k (by omega))
theorem cr_st.fr {M M1 : cq_M} {b : Nat} {g : Nat → Nat} (h : cr_st M b g) (hM : ∀ x, b ≤ x → x < b + 23 → M1 x = M x) (h6 : g 6 ≤ 4) (h51 : g 51 ≤ 8) : cr_st M1 b g := by
  obtain ⟨q1, q2, q3, q4, q5⟩ := h
  refine ⟨by unfold cr_int; rw [hM b (by omega) (by omega)]; exact q1, fun c hc => ?_, fun r hr => ?_, q4.ext (fun x k1 k2 => hM x (by omega) (by omega)) (fun k hk => rfl), q5.ext (fun x k1 k2 => hM x (by omega) (by omega))⟩
  · have := q2 c hc
    unfold cr_cord at this ⊢
    rw [hM _ (by omega) (by omega), hM (b + 7 + 2 * c + 1) (by omega) (by omega)]
    exact this
  · exact (q3 r hr).ext (hM _ (by omega) (by omega)) (fun k k1 k2 => rfl)
/-- one cord -/
theorem cr_st.cord {M M1 : cq_M} {b B c : Nat} {g g' : Nat → Nat} (h : cr_st M b g) (hk : ns_ok g B) (hc : c < g 6) (hM : ∀ x, x ≠ b + 7 + 2 * c → x ≠ b + 7 + 2 * c + 1 → M1 x = M x) (hq : cr_cord M1 (b + 7 + 2 * c) g' c) (hb : cr_01 (M1 (b + 7 + 2 * c) 5) ∧ cr_01 (M1 (b + 7 + 2 * c) 6)) (hg : ∀ k, (k < 7 + 11 * c ∨ 18 + 11 * c ≤ k) → g k = g' k) : cr_st M1 b g' := by
  obtain ⟨q1, q2, q3, q4, q5⟩ := h
  have h6 := hk.1
  refine ⟨?_, fun c2 hc2 => ?_, fun r hr => ?_, q4.ext (fun x k1 k2 => hM x (by omega) (by omega)) (fun k hk => hg k (by omega)), fun c2 hc2 => ?_, fun r hr => ?_⟩
  · unfold cr_int
    rw [hM b (by omega) (by omega), ← hg 6 (by omega), ← hg 51 (by omega), ← hg 0 (by omega), ← hg 1 (by omega), ← hg 2 (by omega), ← hg 3 (by omega), ← hg 4 (by omega), ← hg 5 (by omega)]
    exact q1
  · rw [← hg 6 (by omega)] at hc2
    by_cases e : c2 = c
    · subst e; exact hq
    · exact (q2 c2 hc2).ext (hk.2.2.2.1 c2 hc2).1.2 (hM _ (by omega) (by omega)) (hM _ (by omega) (by omega)) (fun k k1 k2 => hg k (by omega))
  · rw [← hg 51 (by omega)] at hr
    have := hk.2.1
    exact (q3 r hr).ext (hM _ (by omega) (by omega)) (fun k k1 k2 => hg k (by omega))
  · by_cases e : c2 = c
    · subst e; exact hb
    · rw [hM _ (by omega) (by omega)]; exact q5.1 c2 hc2
  · rw [hM _ (by omega) (by omega)]; exact q5.2 r hr
/-- the book -/
theorem cr_st.book {M M1 : cq_M} {b B : Nat} {g g' : Nat → Nat} (h : cr_st M b g) (hk : ns_ok g B) (hM : cr_fr M M1 (b + 3) 4) (hq : cr_book M1 (b + 3) g') (hg : ∀ k, k < 84 → g k = g' k) : cr_st M1 b g' := by
  obtain ⟨q1, q2, q3, q4, q5⟩ := h
  have h6 := hk.1
  have h51 := hk.2.1
  refine ⟨?_, fun c hc => ?_, fun r hr => ?_, hq, q5.ext (fun x k1 k2 => hM x (by omega))⟩
  · unfold cr_int
    rw [hM b (by omega), ← hg 6 (by omega), ← hg 51 (by omega), ← hg 0 (by omega), ← hg 1 (by omega), ← hg 2 (by omega), ← hg 3 (by omega), ← hg 4 (by omega), ← hg 5 (by omega)]
    exact q1
  · rw [← hg 6 (by omega)] at hc
    exact (q2 c hc).ext (hk.2.2.2.1 c hc).1.2 (hM _ (by omega)) (hM _ (by omega)) (fun k k1 k2 => hg k (by omega))
  · rw [← hg 51 (by omega)] at hr
    exact (q3 r hr).ext (hM _ (by omega)) (fun k k1 k2 => hg k (by omega))
/-- one rule -/
theorem cr_st.rule {M M1 : cq_M} {b B r : Nat} {g g' : Nat → Nat} (h : cr_st M b g) (hk : ns_ok g B) (hr : r < g 51) (hM : ∀ x, x ≠ b + 15 + r → M1 x = M x) (hq : cr_rule M1 (b + 15 + r) g' r) (hb : cr_01 (M1 (b + 15 + r) 2)) (hg : ∀ k, (k < 52 + 4 * r ∨ 56 + 4 * r ≤ k) → g k = g' k) : cr_st M1 b g' := by
  obtain ⟨q1, q2, q3, q4, q5⟩ := h
  have h6 := hk.1
  have h51 := hk.2.1
  refine ⟨?_, fun c hc => ?_, fun r2 hr2 => ?_, q4.ext (fun x k1 k2 => hM x (by omega)) (fun k hk => hg k (by omega)), fun c2 hc2 => ?_, fun r2 hr2 => ?_⟩
  · unfold cr_int
    rw [hM b (by omega), ← hg 6 (by omega), ← hg 51 (by omega), ← hg 0 (by omega), ← hg 1 (by omega), ← hg 2 (by omega), ← hg 3 (by omega), ← hg 4 (by omega), ← hg 5 (by omega)]
    exact q1
  · rw [← hg 6 (by omega)] at hc
    exact (q2 c hc).ext (hk.2.2.2.1 c hc).1.2 (hM _ (by omega)) (hM _ (by omega)) (fun k k1 k2 => hg k (by omega))
  · rw [← hg 51 (by omega)] at hr2
    by_cases e : r2 = r
    · subst e; exact hq
    · exact (q3 r2 hr2).ext (hM _ (by omega)) (fun k k1 k2 => hg k (by omega))
  · rw [hM _ (by omega)]; exact q5.1 c2 hc2
  · by_cases e : r2 = r
    · subst e; exact hb
    · rw [hM _ (by omega)]; exact q5.2 r2 hr2
theorem cr_01m (f : Nat) : cr_01 (nI (f % 2)) := by
  rcases Nat.mod_two_eq_zero_or_one f with h | h <;> rw [h]
  · exact Or.inl rfl
  · exact Or.inr rfl
theorem cr_01d {f : Nat} (h : f ≤ 3) : cr_01 (nI (f / 2)) := by
  have : f / 2 = 0 ∨ f / 2 = 1 := by omega
  rcases this with h | h <;> rw [h]
  · exact Or.inl rfl
  · exact Or.inr rfl
theorem cr_cord.b5 {M : cq_M} {a c : Nat} {g : Nat → Nat} (h : cr_cord M a g c) : M a 5 = 0 ∨ M a 5 = 1 := by rw [h.2.2.2.2.1]; exact cr_01m _
theorem cr_cord.b6 {M : cq_M} {a c : Nat} {g : Nat → Nat} (h : cr_cord M a g c) (hf : g (16 + 11 * c) ≤ 3) : M a 6 = 0 ∨ M a 6 = 1 := by rw [h.2.2.2.2.2.1]; exact cr_01d hf
/-- a cord's reads, in counts -/
theorem cr_fl {M : cq_M} {a c : Nat} {g : Nat → Nat} (h : cr_cord M a g c) (hf : g (16 + 11 * c) ≤ 3) : cd_fl M a = nI (ns_fl (g (16 + 11 * c))) := by
  unfold cd_fl ns_fl
  rw [h.2.2.2.2.1, h.2.2.2.2.2.1]
  have h9 : g (16 + 11 * c) = 0 ∨ g (16 + 11 * c) = 1 ∨ g (16 + 11 * c) = 2 ∨ g (16 + 11 * c) = 3 := by omega
  rcases h9 with e | e | e | e <;> rw [e] <;> decide
theorem cr_out {M : cq_M} {a c : Nat} {g : Nat → Nat} (h : cr_cord M a g c) (hq : ns_cord g c) : cd_out M a ↔ ns_left g c = 0 := by
  unfold cd_out
  rw [h.2.1, h.2.2.1, h.2.2.2.1, nI_add, nI_eq]
  · have h3 := hq.2.2.1
    unfold ns_left ns_burned at *
    omega
  · have := hq.time
    have h3 := hq.2.2.1
    unfold ns_burned at h3
    omega
  · have := hq.time
    omega
theorem cr_can {M : cq_M} {a c : Nat} {g : Nat → Nat} (x : Int32) (h : cr_cord M a g c) (hq : ns_cord g c) : (¬ cd_out M a ∧ (if x = 0 then M a 6 else M a 5) = 0) ↔ ns_canLight g c x := by
  rw [cr_out h hq, h.2.2.2.2.1, h.2.2.2.2.2.1]
  have h4 := hq.2.2.2.1
  unfold ns_canLight ns_bit
  split
  · rw [show ((0 : Int32) = nI 0) from rfl, nI_eq (by omega) (by omega)]
    omega
  · rw [show ((0 : Int32) = nI 0) from rfl, nI_eq (by omega) (by omega)]
    omega
section CRK
variable {l : Launch} {D : va_G} {cA : Nat → ClassId} {X : cq_X} {Bs : Nat} {a c : Nat} {M : cq_M} {g : Nat → Nat}
theorem nX1_isOut (ha : cq_isCord X a) (h : cr_cord M a g c) (hq : ns_cord g c) : cq_C l yX1_isOut wsX1_isOut rmX1_isOut D cA X Bs [.ref a] M (cq_PI (fun r M1 => r = (if ns_left g c = 0 then 1 else 0) ∧ M1 = M)) 0 0 :=
  (kX1_isOut l D cA X Bs a M ha).impI (fun r M1 hp => ⟨by rw [hp.1]; exact cq_ifc (cr_out h hq), hp.2⟩)
theorem nX1_flameCount (ha : cq_isCord X a) (h : cr_cord M a g c) (hf : g (16 + 11 * c) ≤ 3) : cq_C l yX1_flameCount wsX1_flameCount rmX1_flameCount D cA X Bs [.ref a] M (cq_PI (fun r M1 => r = nI (ns_fl (g (16 + 11 * c))) ∧ M1 = M)) 0 0 :=
  (kX1_flameCount l D cA X Bs a M ha).impI (fun r M1 hp => ⟨by rw [hp.1, cr_fl h hf], hp.2⟩)
theorem nX1_canBeLit (x : Int32) (ha : cq_isCord X a) (h : cr_cord M a g c) (hq : ns_cord g c) : cq_C l yX1_canBeLit wsX1_canBeLit rmX1_canBeLit D cA X Bs [.ref a, .int x] M (cq_PI (fun r M1 => r = (if ns_canLight g c x then 1 else 0) ∧ M1 = M)) 0 0 :=
  (kX1_canBeLit l D cA X Bs a x M ha h.b5 (h.b6 hq.2.2.2.1)).impI (fun r M1 hp => ⟨by rw [hp.1]; exact cq_ifc (cr_can x h hq), hp.2⟩)
theorem nX1_timeLeft (ha : cq_isCord X a) (h : cr_cord M a g c) (hq : ns_cord g c) : cq_C l yX1_timeLeft wsX1_timeLeft rmX1_timeLeft D cA X Bs [.ref a] M (cq_PI (fun r M1 => r = nI (ns_left g c) ∧ M1 = M)) 0 0 :=
  (kX1_timeLeft l D cA X Bs a M ha).impI (fun r M1 hp => ⟨by
    rw [hp.1, h.2.1, h.2.2.1, h.2.2.2.1]
    have h3 := hq.2.2.1
    unfold ns_burned at h3
    rw [pk_sub (by omega), pk_sub (by omega)]
    unfold ns_left ns_burned
    congr 1
    omega, hp.2⟩)
theorem nX1_burnedTime (ha : cq_isCord X a) (h : cr_cord M a g c) : cq_C l yX1_burnedTime wsX1_burnedTime rmX1_burnedTime D cA X Bs [.ref a] M (cq_PI (fun r M1 => r = nI (ns_burned g c) ∧ M1 = M)) 0 0 :=
  (kX1_burnedTime l D cA X Bs a M ha).impI (fun r M1 hp => ⟨by rw [hp.1, h.2.2.1, h.2.2.2.1, nI_add]; rfl, hp.2⟩)
end CRK
theorem nX1_isOut3 {l : Launch} {D : va_G} {cA : Nat → ClassId} {X : cq_X} {Bs : Nat} {a : Nat} {M : cq_M} (T L R : Nat) (ha : cq_isCord X a) (h2 : M a 2 = nI T) (h3 : M a 3 = nI L) (h4 : M a 4 = nI R) (hT : T < 1000000) (hL : L + R < 1000000) : cq_C l yX1_isOut wsX1_isOut rmX1_isOut D cA X Bs [.ref a] M (cq_PI (fun r M1 => r = (if L + R = T then 1 else 0) ∧ M1 = M)) 0 0 :=
  (kX1_isOut l D cA X Bs a M ha).impI (fun r M1 hp => ⟨by
    rw [hp.1]
    refine cq_ifc ?_
    unfold cd_out
    rw [h2, h3, h4, nI_add, nI_eq (by omega) (by omega)], hp.2⟩)
theorem cr_book_write {M M1 : cq_M} {a nx kd c : Nat} {g : Nat → Nat} (hnx : nx < 8) (h84 : g 84 ≤ 8) (hent : ∀ i, i < g 84 → M (a + 1) ((nx + 7 - i) % 8) = nI (g (85 + 3 * i)) ∧ M (a + 2) ((nx + 7 - i) % 8) = nI (g (86 + 3 * i)) ∧ M (a + 3) ((nx + 7 - i) % 8) = nI (g (87 + 3 * i))) (h3 : M1 a 3 = nI ((nx + 1) % 8)) (h4 : M1 a 4 = nI (if g 84 < 8 then g 84 + 1 else 8)) (e1 : ∀ p, M1 (a + 1) p = if p = nx then nI kd else M (a + 1) p) (e2 : ∀ p, M1 (a + 2) p = if p = nx then nI (g 0) else M (a + 2) p) (e3 : ∀ p, M1 (a + 3) p = if p = nx then nI c else M (a + 3) p) : cr_book M1 a (ns_write g kd c) := by
  have w84 : ns_write g kd c 84 = if g 84 < 8 then g 84 + 1 else 8 := by simp [ns_write]
  refine ⟨by rw [h4, w84], (nx + 1) % 8, by omega, h3, fun i hi => ?_⟩
  rw [w84] at hi
  rw [e1, e2, e3]
  cases i with
  | zero =>
    rw [if_pos (by omega), if_pos (by omega), if_pos (by omega)]
    exact ⟨by simp [ns_write], by simp [ns_write], by simp [ns_write]⟩
  | succ j =>
    have hj : j < g 84 := by split at hi <;> omega
    have hj7 : j < 7 := by split at hi <;> omega
    have hp : ((nx + 1) % 8 + 7 - (j + 1)) % 8 = (nx + 7 - j) % 8 := by omega
    rw [if_neg (by omega), if_neg (by omega), if_neg (by omega), hp]
    obtain ⟨q1, q2, q3⟩ := hent j hj
    have w : ∀ q, q < 3 → ns_write g kd c (85 + 3 * (j + 1) + q) = g (85 + 3 * j + q) := by
      intro q hq
      unfold ns_write
      rw [if_neg (by omega), if_neg (by omega), if_neg (by omega), if_pos (by omega)]
      congr 1
      omega
    have w0 := w 0 (by omega)
    have w1 := w 1 (by omega)
    have w2 := w 2 (by omega)
    rw [show 86 + 3 * (j + 1) = 85 + 3 * (j + 1) + 1 by omega, show 87 + 3 * (j + 1) = 85 + 3 * (j + 1) + 2 by omega, show 85 + 3 * (j + 1) = 85 + 3 * (j + 1) + 0 by omega, w0, w1, w2]
    exact ⟨q1, by rw [q2]; congr 2; omega, by rw [q3]; congr 2; omega⟩
theorem cr_st.light {M M1 : cq_M} {b B c : Nat} {x : Int32} {g : Nat → Nat} (hs : cr_st M b g) (hk : ns_ok g B) (hc : c < g 6) (hl : ns_canLight g c x) (h1 : M1 = if x = 0 then cq_up M (b + 7 + 2 * c) 6 1 else cq_up M (b + 7 + 2 * c) 5 1) : cr_st M1 b (ns_up g (16 + 11 * c) (g (16 + 11 * c) + ns_side x)) ∧ cr_fr M M1 b 23 := by
  have hq := hk.2.2.2.1 c hc
  have h6 := hk.1
  have hf := hq.2.2.2.1
  obtain ⟨q1, q2, q3, q4, q5, q6, q7, q8⟩ := hs.2.1 c hc
  have hbit := hl.2
  have e : ∀ k, k ≠ 16 + 11 * c → ns_up g (16 + 11 * c) (g (16 + 11 * c) + ns_side x) k = g k := fun k z => ns_up_n z
  have et : ns_time (ns_up g (16 + 11 * c) (g (16 + 11 * c) + ns_side x)) c = ns_time g c := (ns_time_ext hq.1.2 (fun k k1 k2 => (e k (by omega)).symm)).symm
  have hM : ∀ y, y ≠ b + 7 + 2 * c → M1 y = M y := fun y hy => by rw [h1]; split <;> exact cq_up_row hy
  have hM2 : ∀ j, j ≠ 5 → j ≠ 6 → M1 (b + 7 + 2 * c) j = M (b + 7 + 2 * c) j := fun j h5 h6 => by
    rw [h1]; split
    · exact cq_up_k h6
    · exact cq_up_k h5
  have h56 : M1 (b + 7 + 2 * c) 5 = nI ((g (16 + 11 * c) + ns_side x) % 2) ∧ M1 (b + 7 + 2 * c) 6 = nI ((g (16 + 11 * c) + ns_side x) / 2) := by
    unfold ns_bit at hbit
    unfold ns_side
    by_cases hx : x = 0
    · rw [if_pos hx] at hbit
      rw [h1, if_pos hx, if_pos hx, cq_up_k (by omega), q5, cq_up_s]
      refine ⟨congrArg nI (by omega), ?_⟩
      rw [show (g (16 + 11 * c) + 2) / 2 = 1 by omega]
      rfl
    · rw [if_neg hx] at hbit
      rw [h1, if_neg hx, if_neg hx, cq_up_s, cq_up_k (by omega), q6]
      refine ⟨?_, congrArg nI (by omega)⟩
      rw [show (g (16 + 11 * c) + 1) % 2 = 1 by omega]
      rfl
  refine ⟨hs.cord hk hc (fun y hy _ => hM y hy) ⟨?_, ?_, ?_, ?_, ?_, ?_, ?_, fun k hk9 => ?_⟩ ⟨by rw [h56.1]; exact cr_01m _, by rw [h56.2]; exact cr_01d (ns_bit_le hf hbit)⟩ (fun k hk9 => (e k (by omega)).symm), fun y hy => hM y (by omega)⟩
  · rw [hM2 _ (by omega) (by omega), e _ (by omega)]; exact q1
  · rw [hM2 _ (by omega) (by omega), et]; exact q2
  · rw [hM2 _ (by omega) (by omega), e _ (by omega)]; exact q3
  · rw [hM2 _ (by omega) (by omega), e _ (by omega)]; exact q4
  · rw [ns_up_s]; exact h56.1
  · rw [ns_up_s]; exact h56.2
  · rw [hM2 _ (by omega) (by omega), e _ (by omega)]; exact q7
  · rw [e _ (by omega)] at hk9
    have hs6 := hq.1.2
    rw [hM _ (by omega), e _ (by omega)]
    exact q8 k hk9
/-- an int of the State itself: place in the object, place in the row -/
theorem cr_st.set {M M1 : cq_M} {b B kf gi v : Nat} {g : Nat → Nat} (h : cr_st M b g) (hk : ns_ok g B) (hm : (kf, gi) ∈ [(5, 0), (6, 1), (7, 2), (8, 3), (9, 4), (10, 5)]) (h1 : M1 = cq_up M b kf (nI v)) : cr_st M1 b (ns_up g gi v) ∧ cr_fr M M1 b 23 := by
  refine ⟨h.ints hk (fun x hx => by rw [h1, cq_up_row hx]) ?_ (fun k hk => ?_), fun x hx => by rw [h1, cq_up_row (by omega)]⟩
  · obtain ⟨q1, q2, q3, q4, q5, q6, q7, q8⟩ := h.1
    simp only [List.mem_cons, Prod.mk.injEq, List.not_mem_nil, or_false] at hm
    rcases hm with ⟨rfl, rfl⟩ | ⟨rfl, rfl⟩ | ⟨rfl, rfl⟩ | ⟨rfl, rfl⟩ | ⟨rfl, rfl⟩ | ⟨rfl, rfl⟩ <;> subst h1 <;> refine ⟨?_, ?_, ?_, ?_, ?_, ?_, ?_, ?_⟩ <;> simp [cq_up, ns_up, *]
  · simp only [List.mem_cons, Prod.mk.injEq, List.not_mem_nil, or_false] at hm
    rcases hm with ⟨rfl, rfl⟩ | ⟨rfl, rfl⟩ | ⟨rfl, rfl⟩ | ⟨rfl, rfl⟩ | ⟨rfl, rfl⟩ | ⟨rfl, rfl⟩ <;> exact (ns_up_n (by omega)).symm
/-- a cord that has burned for a step -/
theorem cr_st.burn {M M1 : cq_M} {b B c : Nat} {g : Nat → Nat} (hs : cr_st M b g) (hk : ns_ok g B) (hc : c < g 6) (h1 : cr_cord M1 (b + 7 + 2 * c) (ns_bstep g c) c) (h2 : cq_only M M1 (b + 7 + 2 * c)) : cr_st M1 b (ns_bstep g c) ∧ cr_fr M M1 b 23 := by
  have h6 := hk.1
  obtain ⟨hk2, e⟩ := ns_bstep_ok hk hc
  have e6 := e 6 (by omega) (by omega) (by omega)
  refine ⟨hs.cord hk hc (fun x hx _ => h2 x hx) h1 ⟨h1.b5, h1.b6 (hk2.2.2.2.1 c (by omega)).2.2.2.1⟩ (fun k hk => (e k (by omega) (by omega) (by omega)).symm), fun x hx => h2 x (by omega)⟩
/-- the step at which a cord was burned out -/
theorem cr_st.lastOut {M M1 : cq_M} {b B c v : Nat} {g : Nat → Nat} (hs : cr_st M b g) (hk : ns_ok g B) (hc : c < g 6) (h1 : M1 = cq_up M (b + 7 + 2 * c) 7 (nI v)) : cr_st M1 b (ns_up g (17 + 11 * c) v) ∧ cr_fr M M1 b 23 := by
  have h6 := hk.1
  have hq := hk.2.2.2.1 c hc
  obtain ⟨q1, q2, q3, q4, q5, q6, q7, q8⟩ := hs.2.1 c hc
  have e : ∀ k, k ≠ 17 + 11 * c → ns_up g (17 + 11 * c) v k = g k := fun k z => ns_up_n z
  have et : ns_time (ns_up g (17 + 11 * c) v) c = ns_time g c := (ns_time_ext hq.1.2 (fun k k1 k2 => (e k (by omega)).symm)).symm
  have hM : ∀ y, y ≠ b + 7 + 2 * c → M1 y = M y := fun y hy => by rw [h1, cq_up_row hy]
  have hM2 : ∀ j, j ≠ 7 → M1 (b + 7 + 2 * c) j = M (b + 7 + 2 * c) j := fun j hj => by rw [h1, cq_up_k hj]
  refine ⟨hs.cord hk hc (fun y hy _ => hM y hy) ⟨?_, ?_, ?_, ?_, ?_, ?_, ?_, fun k hk9 => ?_⟩ ⟨by rw [hM2 _ (by omega)]; exact hs.2.2.2.2.1 c (by omega) |>.1, by rw [hM2 _ (by omega)]; exact hs.2.2.2.2.1 c (by omega) |>.2⟩ (fun k hk9 => (e k (by omega)).symm), fun y hy => hM y (by omega)⟩
  · rw [hM2 _ (by omega), e _ (by omega)]; exact q1
  · rw [hM2 _ (by omega), et]; exact q2
  · rw [hM2 _ (by omega), e _ (by omega)]; exact q3
  · rw [hM2 _ (by omega), e _ (by omega)]; exact q4
  · rw [hM2 _ (by omega), e _ (by omega)]; exact q5
  · rw [hM2 _ (by omega), e _ (by omega)]; exact q6
  · rw [h1, cq_up_s, ns_up_s]
  · have hs6 := hq.1.2
    rw [e _ (by omega)] at hk9
    rw [hM _ (by omega), e _ (by omega)]
    exact q8 k hk9
/-- how often a rule lit an end -/
theorem cr_st.timesLit {M M1 : cq_M} {b B r v : Nat} {g : Nat → Nat} (hs : cr_st M b g) (hk : ns_ok g B) (hr : r < g 51) (h1 : M1 = cq_up M (b + 15 + r) 3 (nI v)) : cr_st M1 b (ns_up g (55 + 4 * r) v) ∧ cr_fr M M1 b 23 := by
  have h51 := hk.2.1
  obtain ⟨q1, q2, q3, q4⟩ := hs.2.2.1 r hr
  have hM : ∀ y, y ≠ b + 15 + r → M1 y = M y := fun y hy => by rw [h1, cq_up_row hy]
  have hM2 : ∀ j, j ≠ 3 → M1 (b + 15 + r) j = M (b + 15 + r) j := fun j hj => by rw [h1, cq_up_k hj]
  refine ⟨hs.rule hk hr hM ⟨?_, ?_, ?_, ?_⟩ (by rw [hM2 _ (by omega)]; exact hs.2.2.2.2.2 r (by omega)) (fun k hk9 => (ns_up_n (by omega)).symm), fun y hy => hM y (by omega)⟩
  · rw [hM2 _ (by omega), ns_up_n (by omega)]; exact q1
  · rw [hM2 _ (by omega), ns_up_n (by omega)]; exact q2
  · rw [hM2 _ (by omega), ns_up_n (by omega)]; exact q3
  · rw [h1, cq_up_s, ns_up_s]
