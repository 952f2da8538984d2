/-! A MEMORY OF NUMBERS: the heap of a class is a fixed shape (kinds, lengths, targets of references) and a function from places to ints. -/
abbrev cq_M : Type := Nat → Nat → Int32
def cq_up (M : cq_M) (a k : Nat) (v : Int32) : cq_M := fun x j => if x = a ∧ j = k then v else M x j
/-- kinds (0: nothing; 1 to 9: the class of that place in vwCl; 10 + t: an array of the type t), lengths, targets -/
abbrev cq_X : Type := (Nat → Nat) × (Nat → Nat) × (Nat → Nat → Nat)
def cq_N (ci : Nat) : Nat := match ci with
  | 1 => 5
  | 2 => 8
  | 3 => 10
  | 4 => 4
  | 5 => 4
  | 6 => 11
  | 7 => 9
  | 8 => 22
  | 9 => 4
  | _ => 0
/-- which fields are references -/
def cq_r (ci k : Nat) : Bool := match ci with
  | 1 => Nat.blt k 3
  | 2 => Nat.beq k 0
  | 3 => Nat.beq k 0 || Nat.beq k 4
  | 4 => Nat.blt k 3
  | 6 => Nat.beq k 0 || Nat.beq k 2 || Nat.beq k 4
  | 7 => Nat.blt k 3 || Nat.blt 4 k
  | 8 => Nat.blt k 2 || (Nat.blt 2 k && Nat.blt k 6) || Nat.beq k 7 || (Nat.blt 11 k && Nat.blt k 19) || Nat.beq k 20
  | 9 => Nat.beq k 0
  | _ => false
def cq_v (X : cq_X) (M : cq_M) (ci a k : Nat) : Value := match cq_r ci k with
  | true => .ref (X.2.2 a k)
  | false => .int (M a k)
def cq_o (X : cq_X) (M : cq_M) (ci a : Nat) : List Value := (List.range (cq_N ci)).map (cq_v X M ci a)
/-- what an array of the type t holds -/
def cq_c (t n : Nat) (f : Nat → Int32) (g : Nat → Nat) : vp_A := match t with
  | 3 => (n, .inr (.inr (.inr (.inr (fun k => some (g k))))))
  | 4 => (n, .inr (.inr (.inr (.inr (fun k => some (g k))))))
  | 5 => (n, .inr (.inr (.inr (.inr (fun k => some (g k))))))
  | 6 => (n, .inr (.inr (.inr (.inr (fun k => some (g k))))))
  | 7 => (n, .inr (.inl (fun k => (f k).toInt64)))
  | _ => (n, .inl f)
abbrev cq_tys (cA : Nat → ClassId) : List (ClassId × FieldType) := [(cA 0, .int), (cA 1, .char), (cA 2, .boolean), (cA 3, .object "CordClock$Cord"), (cA 4, .object "CordClock$Rule"), (cA 5, .object "CordClock$State"), (cA 6, .array .int), (cA 7, .int), (cA 8, .byte)]
/-- the heap holds the memory M in the shape X, all of it from Bs on -/
def cq_H (D : va_G) (cA : Nat → ClassId) (X : cq_X) (Bs : Nat) (M : cq_M) (H : Heap) : Prop :=
  (∀ a ci : Nat, X.1 a = ci → 0 < ci → ci < 10 → va_at D vwCl (a, .inr (ci, cq_o X M ci a)) H) ∧ (∀ a t : Nat, X.1 a = 10 + t → va_at D vwCl (a, .inl (cA t, cq_c t (X.2.1 a) (M a) (X.2.2 a))) H) ∧ ∀ a : Nat, X.1 a ≠ 0 → Bs ≤ a
theorem cq_up_s (M : cq_M) (a k : Nat) (v : Int32) : cq_up M a k v a k = v := by simp [cq_up]
theorem cq_up_a {M : cq_M} {a k : Nat} {v : Int32} {x j : Nat} (h : x ≠ a) : cq_up M a k v x j = M x j := by simp [cq_up, h]
theorem cq_up_k {M : cq_M} {a k : Nat} {v : Int32} {x j : Nat} (h : j ≠ k) : cq_up M a k v x j = M x j := by simp [cq_up, h]
theorem cq_up_row {M : cq_M} {a k : Nat} {v : Int32} {x : Nat} (h : x ≠ a) : cq_up M a k v x = M x := funext fun j => cq_up_a h
theorem cq_up_self (M : cq_M) (a k : Nat) (v : Int32) : cq_up M a k v a = upd (M a) k v := by
  funext j
  by_cases h : j = k
  · subst h; simp [cq_up, upd]
  · simp [cq_up, upd, h]
theorem cq_o_at {X : cq_X} {M : cq_M} {ci a k : Nat} (hk : k < cq_N ci) : (cq_o X M ci a)[k]? = some (cq_v X M ci a k) := by
  unfold cq_o
  rw [List.getElem?_map, List.getElem?_range hk]
  rfl
theorem cq_o_ne {X : cq_X} {M : cq_M} {a k : Nat} {v : Int32} {ci x : Nat} (h : x ≠ a) : cq_o X (cq_up M a k v) ci x = cq_o X M ci x := by
  unfold cq_o cq_v
  rw [cq_up_row h]
theorem cq_one {D : va_G} {q : Nat × va_E} {H : Heap} (h : va_at D vwCl q H) : va_P D vwCl [q] H := by
  intro k q' hk
  have h1 : k < 1 := (List.getElem?_eq_some_iff.mp hk).1
  obtain rfl : k = 0 := by omega
  cases hk
  exact h
/-- the locals: a list of places and values of one slot, the first of a place counts -/
def cq_L (ls : Array Slot) (nL : Nat) (L : List (Nat × Value)) : Prop := ∃ l, lv_has ls nL l ∧ ∀ (i : Nat) (v : Value), L.lookup i = some v → (i, v) ∈ l ∧ v.category = 1
theorem cq_L.size {ls : Array Slot} {nL : Nat} {L : List (Nat × Value)} (h : cq_L ls nL L) : ls.size = nL := by
  obtain ⟨l, h1, -⟩ := h
  exact h1.1
theorem cq_L.at {ls : Array Slot} {nL : Nat} {L : List (Nat × Value)} {i : Nat} {v : Value} (h : cq_L ls nL L) (hi : L.lookup i = some v) : ls[i]? = some (.val v) := by
  obtain ⟨l, h1, h2⟩ := h
  exact h1.2.2 (i, v) (h2 i v hi).1
theorem cq_lk {i : Nat} {v : Value} : ∀ {L : List (Nat × Value)}, L.lookup i = some v → (i, v) ∈ L
  | [], h => by cases h
  | (j, w) :: L, h => by
    rw [List.lookup_cons] at h
    by_cases e : i = j
    · subst e
      simp at h
      subst h
      exact List.mem_cons_self
    · have e2 : (i == j) = false := by simp [e]
      rw [e2] at h
      exact List.mem_cons_of_mem _ (cq_lk h)
theorem cq_L.of {ls : Array Slot} {nL : Nat} {L : List (Nat × Value)} (h : lv_has ls nL L) (hc : L.all (fun q => Nat.beq q.2.category 1) = true) : cq_L ls nL L := by
  refine ⟨L, h, fun i v hi => ?_⟩
  have hm := cq_lk hi
  exact ⟨hm, Nat.eq_of_beq_eq_true (List.all_eq_true.mp hc _ hm)⟩
theorem cq_L.sub {ls : Array Slot} {nL : Nat} {L L' : List (Nat × Value)} (h : cq_L ls nL L) (hl : ∀ (i : Nat) (v : Value), L'.lookup i = some v → L.lookup i = some v) : cq_L ls nL L' := by
  obtain ⟨l, h1, h2⟩ := h
  exact ⟨l, h1, fun i v hi => h2 i v (hl i v hi)⟩
/-- fewer locals: each is in the longer list at its place -/
theorem cq_subl {L : List (Nat × Value)} : ∀ {L' : List (Nat × Value)}, L'.map (fun q => L.lookup q.1) = L'.map (fun q => some q.2) → ∀ (i : Nat) (v : Value), L'.lookup i = some v → L.lookup i = some v
  | [], _, i, v, h => by cases h
  | (j, w) :: L', hm, i, v, h => by
    simp only [List.map_cons, List.cons.injEq] at hm
    rw [List.lookup_cons] at h
    by_cases e : i = j
    · subst e
      simp at h
      subst h
      exact hm.1
    · have e2 : (i == j) = false := by simp [e]
      rw [e2] at h
      exact cq_subl hm.2 i v h
theorem cq_L.put {ls' : Array Slot} {nL i : Nat} {v : Value} {L l : List (Nat × Value)} (h2 : ∀ (i : Nat) (v : Value), L.lookup i = some v → (i, v) ∈ l ∧ v.category = 1) (h' : lv_has ls' nL ((i, v) :: l.filter (fun q => !(q.1 == i) && !(q.1 + 1 == i && q.2.category == 2)))) (hc : v.category = 1) : cq_L ls' nL ((i, v) :: L) := by
  refine ⟨_, h', fun j w hj => ?_⟩
  rw [List.lookup_cons] at hj
  by_cases e : j = i
  · subst e
    simp at hj
    subst hj
    exact ⟨List.mem_cons_self, hc⟩
  · have e2 : (j == i) = false := by simp [e]
    rw [e2] at hj
    obtain ⟨h3, h4⟩ := h2 j w hj
    refine ⟨List.mem_cons_of_mem _ (List.mem_filter.mpr ⟨h3, ?_⟩), h4⟩
    simp [e, h4]
/-- what stands fast in a method's walk -/
def cq_F (p : Program) (s : State) (m : MethodId) (args : Array Value) (meth : Method) (c : Code) (D : va_G) (cA : Nat → ClassId) (Bs nL : Nat) (cc : ByteArray) (own : String) (Ts : List Cond) : Prop :=
  CallFix p m c cc nL s args Ts own ∧ va_K D vwCl (cq_tys cA) s ∧ meth.locks = false ∧ Bs ≤ s.heap.size ∧ cq_E D Bs s
def cq_A (Bs : Nat) : Nat → Prop := fun q => Bs ≤ q
/-- the walk's goal, over the memory alone -/
def cq_V (p : Program) (l : Launch) (e : Env) (R : Room) (s : State) (m : MethodId) (args : Array Value) (below : List Frame) (meth : Method) (c : Code) (D : va_G) (cA : Nat → ClassId) (X : cq_X) (Bs nL cells slots : Nat) (Q : State → Prop) (pc : Nat) (L : List (Nat × Value)) (st : List Value) (M : cq_M) : Prop :=
  ∀ (H : Heap) (locs : List Loc) (ls : Array Slot), cq_H D cA X Bs M H → va_S (cq_A Bs) s.heap H locs → cq_L ls nL L → W p l e R s m args below meth c H locs cells slots Q (F0 m pc ls st)
/-- a method's start: its world; its end: an answer, and the world behind it -/
def cq_P (D : va_G) (cA : Nat → ClassId) (X : cq_X) (Bs : Nat) (av : List Value) (M : cq_M) : Array Value → State → Prop := va_Pc av (fun U => cq_H D cA X Bs M U.heap ∧ va_K D vwCl (cq_tys cA) U ∧ Bs ≤ U.heap.size ∧ cq_E D Bs U)
def cq_Q (D : va_G) (cA : Nat → ClassId) (X : cq_X) (Bs : Nat) (Post : Option Value → cq_M → Prop) : Array Value → State → Outcome → State → Prop := fun _ st oc t => (∃ (rv : Option Value) (M1 : cq_M), oc = .returned rv ∧ Post rv M1 ∧ cq_H D cA X Bs M1 t.heap) ∧ va_F (cq_A Bs) st t
/-- THE CONTRACT of a method that returns -/
def cq_C (l : Launch) (y : MethodName) (ws : List Cond) (rm : Room) (D : va_G) (cA : Nat → ClassId) (X : cq_X) (Bs : Nat) (av : List Value) (M : cq_M) (Post : Option Value → cq_M → Prop) (mc ms : Nat) : Prop :=
  Met l y ws rm (cq_P D cA X Bs av M) (cq_Q D cA X Bs Post) mc ms (cq_A Bs)
theorem cq_blind {D : va_G} {cA : Nat → ClassId} {X : cq_X} {Bs : Nat} {av : List Value} {M : cq_M} : FrameBlind (cq_P D cA X Bs av M) := fun a U g mk q => by
  obtain ⟨q0, q1, q2, q3, q4⟩ := q
  exact ⟨q0, q1, va_K.moved (u := U) (U := U.calling g mk a) (Vm.Alike.refl U.vm) q2, q3, q4.same rfl rfl⟩
theorem cq_met {l : Launch} {y : MethodName} {ws ws' : List Cond} {rm : Room} {D : va_G} {cA : Nat → ClassId} {X : cq_X} {Bs : Nat} {av : List Value} {M : cq_M} {Post : Option Value → cq_M → Prop} {mc ms : Nat} {cc : ByteArray} {maxL : Nat} {ret : Option FieldType} (hy : plainName y.cls = true) (hw : ws = Cond.code y cc maxL ret :: ws') (hn : (lg_sl av).length ≤ maxL) (L : List (Nat × Value)) (hL : lv_args 0 av = L) (hc : L.all (fun q => Nat.beq q.2.category 1) = true)
    (body : ∀ (p : Program) (e : Env) (s : State) (m : MethodId) (below : List Frame) (meth : Method) (c : Code), cq_F p s m av.toArray meth c D cA Bs maxL cc y.cls ws → meth.sig.returnType = ret → cq_V p l e rm s m av.toArray below meth c D cA X Bs maxL 0 0 (MQ below (cq_Q D cA X Bs Post) av.toArray s mc ms (cq_A Bs)) 0 L [] M) : cq_C l y ws rm D cA X Bs av M Post mc ms := by
  refine Met.ofW (cc := cc) (maxL := maxL) (ret := ret) hy hw ?_
  intro p e s m args below meth c s₁ B hml hv
  obtain ⟨rfl, hH, hK, hB, hE⟩ := hv
  have hts := atoms_spec (ws := ws) B.pre
  have h := body p e s m below meth c ⟨⟨B.exec, B.bytes, hml, findClass_of_methodNamed B.named, hts⟩, hK, B.notSynchronized, hB, hE⟩ B.returns
  rw [lg_entry_eq]
  have hl := lv_entry av (n := maxL) hn
  rw [hL] at hl
  exact h s.heap [] _ hH va_S.rf (cq_L.of hl hc)
