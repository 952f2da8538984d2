/-! a new StringBuilder: constructors, the shape widened and narrowed again -/
def cs_P (D : va_G) (cA : Nat → ClassId) (Bs : Nat) (av : List Value) (K : cn_K) (sz : Nat) : Array Value → State → Prop := va_Pc av (fun U => U.heap.size = sz ∧ cn_H D K Bs U.heap ∧ va_K D vwCl (cq_tys cA) U ∧ Bs ≤ U.heap.size ∧ cq_E D Bs U)
/-- a constructor's contract that asks no words on arrays of objects -/
def cs_C (l : Launch) (y : MethodName) (ws : List Cond) (rm : Room) (D : va_G) (cA : Nat → ClassId) (Bs : Nat) (av : List Value) (K : cn_K) (sz : Nat) (Post : cn_K → Prop) (sz1 mc ms : Nat) : Prop :=
  Met l y ws rm (cs_P D cA Bs av K sz) (cn_Q D Bs Post sz1) mc ms (cq_A Bs)
theorem cs_blind {D : va_G} {cA : Nat → ClassId} {Bs : Nat} {av : List Value} {K : cn_K} {sz : Nat} : FrameBlind (cs_P D cA Bs av K sz) := fun a U g mk q => by
  obtain ⟨q0, q1, q2, q3, q4, q5⟩ := q
  exact ⟨q0, q1, q2, va_K.moved (u := U) (U := U.calling g mk a) (Vm.Alike.refl U.vm) q3, q4, q5.same rfl rfl⟩
theorem cs_met {l : Launch} {y : MethodName} {ws ws' : List Cond} {rm : Room} {D : va_G} {cA : Nat → ClassId} {Bs : Nat} {av : List Value} {K : cn_K} {sz : Nat} {Post : cn_K → Prop} {sz1 mc ms : Nat} {cc : ByteArray} {maxL : Nat} {ret : Option FieldType} (hy : plainName y.cls = true) (hw : ws = Cond.code y cc maxL ret :: ws') (hn : (lg_sl av).length ≤ maxL) (L : List (Nat × Value)) (hL : lv_args 0 av = L) (hc : L.all (fun q => Nat.beq q.2.category 1) = true)
    (body : ∀ (p : Program) (e : Env) (s : State) (m : MethodId) (below : List Frame) (meth : Method) (c : Code), cq_F p s m av.toArray meth c D cA Bs maxL cc y.cls ws → meth.sig.returnType = ret → cn_V p l e rm s m av.toArray below meth c D Bs maxL 0 0 (MQ below (cn_Q D Bs Post sz1) av.toArray s mc ms (cq_A Bs)) 0 L [] K sz) : cs_C l y ws rm D cA Bs av K sz Post sz1 mc ms := by
  refine Met.ofW (cc := cc) (maxL := maxL) (ret := ret) hy hw ?_
  intro p e s m args below meth c s₁ B hml hv
  obtain ⟨rfl, hsz, hH, hK, hB, hE⟩ := hv
  have hts := atoms_spec (ws := ws) B.pre
  have h := body p e s m below meth c ⟨⟨B.exec, B.bytes, hml, findClass_of_methodNamed B.named, hts⟩, hK, B.notSynchronized, hB, hE⟩ B.returns
  rw [lg_entry_eq]
  have hl := lv_entry av (n := maxL) hn
  rw [hL] at hl
  exact h s.heap [] _ hsz hH va_S.rf (cq_L.of hl hc)
section CSR
variable {p : Program} {l : Launch} {e : Env} {R : Room} {s : State} {m : MethodId} {args : Array Value} {below : List Frame} {meth : Method} {c : Code} {D : va_G} {cA : Nat → ClassId} {X : cq_X} {Bs nL cells slots : Nat} {Q : State → Prop} {cc : ByteArray} {own : String} {Ts : List Cond} {pc : Nat} {L : List (Nat × Value)} {st : List Value} {K : cn_K} {sz : Nat} {M : cq_M}
theorem cs_callI (F : cq_F p s m args meth c D cA Bs nL cc own Ts) {y : MethodName} {bytes : ByteArray} {maxL mc ms n index b sz1 : Nat} {ws : List Cond} {rm : Room} {Post : cn_K → Prop} {As : List Value} (hM : cs_C l y ws rm D cA Bs (.ref b :: As) K sz Post sz1 mc ms) (cw : CallB R s args own index y bytes maxL none ws rm mc ms n ∧ y.name = "<init>" ∧ (Cond.instanceMethod y).before args s = true) (hn : As.length = n) (hW : (st.map fun v => v.category).sum ≤ 8) (hdg : decode cc pc = .ok (.invokespecial index, 3)) (hf : cells + mc ≤ R.cells ∧ slots + ms ≤ R.slots) (k : ∀ K1 : cn_K, Post K1 → cn_V p l e R s m args below meth c D Bs nL (cells + mc) (slots + ms) Q (pc + 3) L st K1 sz1) : cn_V p l e R s m args below meth c D Bs nL cells slots Q pc L (As.reverse ++ .ref b :: st) K sz := fun H locs ls hz hH hS hL =>
  cn_back F hS hL (va_runI (As := As) (rest := st) F.1 hM cw ⟨cs_blind, fun U hU hW2 => ⟨rfl, by rw [hU]; exact hz, by rw [hU]; exact hH, va_K.moved hW2.alike F.2.1, by rw [hU]; exact Nat.le_trans F.2.2.2.1 hS.1, F.2.2.2.2.go hW2 (fun a h1 h2 => by rw [hU]; exact hS.2.1 a h1 h2)⟩⟩ rfl hn hL.size rfl (lv_room hW) hdg hf) k
end CSR
abbrev rmJ5_init : Room := ({ frames := 1, cells := 1, slots := 16, locals := 13 })
set_option maxHeartbeats 4000000 in
theorem kJ5_init (l : Launch) (D : va_G) (cA : Nat → ClassId) (Bs a : Nat) (K : cn_K) (h0 : K a = some (.inr (9, [.null, .int 0, .int 0, .int 0]))) : cs_C l yJ5_init_d00df wsJ5_init_d00df rmJ5_init D cA Bs [.ref a, .int 16] K (a + 1) (fun K1 => (K1 a = some (.inr (9, [.ref (a + 1), .int 0, .int 0, .int 0])) ∧ K1 (a + 1) = some (.inl (cA 8, 16, .inl (fun _ => 0)))) ∧ ∀ x, x < a → K1 x = K x) (a + 2) 1 16 := by
  refine cs_met (cc := cJ5_init_d00df) (maxL := 2) (ret := none) (by decide) rfl (Nat.le_of_ble_eq_true rfl) [(0, .ref a), (1, .int 16)] rfl rfl ?_
  intro p9 e9 s9 m9 b9 t9 c9 F hr
  have inJ4 : ∀ w ∈ wsJ40, w ∈ wsJ5_init_d00df := (fun w h => List.mem_cons_of_mem _ (List.mem_append_right _ h))
  refine cn_aload_n F (i := 0) dJ5_init_d00df_0 rfl rfl ?_
  refine cn_objInit F (F.1.2.2.2.2 _ (List.mem_of_getElem? (l := wsJ5_init_d00df) (i := 1) (a := .methodLink RJ5 3 objectInit) (by decide +kernel))) (F.1.2.2.2.2 _ (List.mem_of_getElem? (l := wsJ5_init_d00df) (i := 2) (a := .instanceMethod objectInit) (by decide +kernel))) (F.1.2.2.2.2 _ (List.mem_of_getElem? (l := wsJ5_init_d00df) (i := 3) (a := .code objectInit ⟨#[0xb1]⟩ 1 none) (by decide +kernel))) dJ5_init_d00df_1 ⟨Nat.le_of_ble_eq_true rfl, Nat.le_of_ble_eq_true rfl⟩ ?_
  refine cn_getCS F (F.1.2.2.2.2 _ (List.mem_of_getElem? (l := wsJ5_init_d00df) (i := 4) (a := .fieldLink RJ5 18 "java/lang/String" "COMPACT_STRINGS" "Z") (by decide +kernel))) dJ5_init_d00df_4 ?_
  refine cn_if_eq F (tgt := 25) dJ5_init_d00df_7 (by decide) (fun z => absurd z (by decide)) (fun _ => ?_)
  refine cn_aload_n F (i := 0) dJ5_init_d00df_10 rfl rfl ?_
  refine cn_iload_n F (i := 1) dJ5_init_d00df_11 rfl rfl ?_
  refine cn_newa F (atype := .byte) (t := 8) (a0 := (16, .inl (fun _ => 0))) (N := 16) (F.1.2.2.2.2 _ (List.mem_of_getElem? (l := wsJ5_init_d00df) (i := 5) (a := .arrayClass .byte) (by decide +kernel))) (F.2.1.2 8 _ rfl).2 rfl (by decide) (by decide) (Nat.le_of_ble_eq_true rfl) ⟨Nat.le_of_ble_eq_true rfl, Nat.le_of_ble_eq_true rfl⟩ dJ5_init_d00df_12 ?_
  refine cn_up (fun K_12 e_12 => ?_)
  have p_12 : K_12 a = some (.inr (9, [.null, .int 0, .int 0, .int 0])) := by rw [e_12, cn_u_n (by omega)]; exact h0
  have q_12 : K_12 (a + 1) = some (.inl (cA 8, 16, .inl (fun _ => 0))) := by rw [e_12]; exact cn_u_s _ _ _
  have f_12 : ∀ x, x < a → K_12 x = K x := fun x hx => by rw [e_12, cn_u_n (by omega)]
  refine cn_put F (C := RJ4) (T := TJ4) (N := 4) (ci := 9) (fs := [.null, .int 0, .int 0, .int 0]) p_12 rfl inJ4 tyJ4 tyJ4_ok nmJ4 0 (by decide) (F.1.2.2.2.2 _ (List.mem_of_getElem? (l := wsJ5_init_d00df) (i := 6) (a := .fieldLink RJ5 15 "java/lang/AbstractStringBuilder" "value" "[B") (by decide +kernel))) rfl rfl rfl (Nat.le_of_ble_eq_true rfl) dJ5_init_d00df_14 ?_
  refine cn_up (fun K_14 e_14 => ?_)
  have p_14 : K_14 a = some (.inr (9, [.ref (a + 1), .int 0, .int 0, .int 0])) := by rw [e_14]; exact cn_u_s _ _ _
  have q_14 : K_14 (a + 1) = some (.inl (cA 8, 16, .inl (fun _ => 0))) := by rw [e_14, cn_u_n (by omega)]; exact q_12
  have f_14 : ∀ x, x < a → K_14 x = K x := fun x hx => by rw [e_14, cn_u_n (by omega)]; exact f_12 x hx
  refine cn_aload_n F (i := 0) dJ5_init_d00df_17 rfl rfl ?_
  refine cn_iconst F (v := 0) dJ5_init_d00df_18 rfl ?_
  refine cn_put F (C := RJ4) (T := TJ4) (N := 4) (ci := 9) (fs := [.ref (a + 1), .int 0, .int 0, .int 0]) p_14 rfl inJ4 tyJ4 tyJ4_ok nmJ4 1 (by decide) (F.1.2.2.2.2 _ (List.mem_of_getElem? (l := wsJ5_init_d00df) (i := 7) (a := .fieldLink RJ5 22 "java/lang/AbstractStringBuilder" "coder" "B") (by decide +kernel))) rfl rfl rfl (Nat.le_of_ble_eq_true rfl) dJ5_init_d00df_19 ?_
  refine cn_up (fun K_19 e_19 => ?_)
  have p_19 : K_19 a = some (.inr (9, [.ref (a + 1), .int 0, .int 0, .int 0])) := by rw [e_19]; exact cn_u_s _ _ _
  have q_19 : K_19 (a + 1) = some (.inl (cA 8, 16, .inl (fun _ => 0))) := by rw [e_19, cn_u_n (by omega)]; exact q_14
  have f_19 : ∀ x, x < a → K_19 x = K x := fun x hx => by rw [e_19, cn_u_n (by omega)]; exact f_14 x hx
  refine cn_goto F (tgt := 38) dJ5_init_d00df_22 (by decide) ?_
  exact cn_vret F hr (Nat.le_of_ble_eq_true rfl) (Nat.le_of_ble_eq_true rfl) dJ5_init_d00df_38 ⟨⟨p_19, q_19⟩, f_19⟩ rfl
abbrev rmJ4_init : Room := ({ frames := 2, cells := 1, slots := 16, locals := 34 })
set_option maxHeartbeats 4000000 in
theorem kJ4_init (l : Launch) (D : va_G) (cA : Nat → ClassId) (Bs a : Nat) (K : cn_K) (h0 : K a = some (.inr (9, [.null, .int 0, .int 0, .int 0]))) : cs_C l yJ4_init_da8c8 wsJ4_init_da8c8 rmJ4_init D cA Bs [.ref a] K (a + 1) (fun K1 => (K1 a = some (.inr (9, [.ref (a + 1), .int 0, .int 0, .int 0])) ∧ K1 (a + 1) = some (.inl (cA 8, 16, .inl (fun _ => 0)))) ∧ ∀ x, x < a → K1 x = K x) (a + 2) 1 16 := by
  refine cs_met (cc := cJ4_init_da8c8) (maxL := 1) (ret := none) (by decide) rfl (Nat.le_of_ble_eq_true rfl) [(0, .ref a)] rfl rfl ?_
  intro p9 e9 s9 m9 b9 t9 c9 F hr
  refine cn_aload_n F (i := 0) dJ4_init_da8c8_0 rfl rfl ?_
  refine cn_bipush F (v := 16) dJ4_init_da8c8_1 (by decide) ?_
  refine cs_callI F (kJ5_init l D cA Bs a K h0) (cwI 1 F.1.2.2.2.2 gJ4_init_da8c8_J5_init_d00df rfl rfl rfl (F.1.2.2.2.2 _ (List.mem_of_getElem? (l := wsJ4_init_da8c8) (i := 3) (a := .initialized RJ5) (by decide +kernel))) (F.1.2.2.2.2 _ (List.mem_of_getElem? (l := wsJ4_init_da8c8) (i := 1) (a := .methodLink RJ4 1 yJ5_init_d00df) (by decide +kernel))) (F.1.2.2.2.2 _ (List.mem_of_getElem? (l := wsJ4_init_da8c8) (i := 2) (a := .instanceMethod yJ5_init_d00df) (by decide +kernel))) rfl (by decide +kernel) ⟨Nat.le_of_ble_eq_true rfl, Nat.le_of_ble_eq_true rfl⟩) rfl (Nat.le_of_ble_eq_true rfl) dJ4_init_da8c8_3 ⟨Nat.le_of_ble_eq_true rfl, Nat.le_of_ble_eq_true rfl⟩ (fun K_3 h_3 => ?_)
  exact cn_vret F hr (Nat.le_of_ble_eq_true rfl) (Nat.le_of_ble_eq_true rfl) dJ4_init_da8c8_6 h_3 rfl
/-- a clock, as far as an entry's teller reads it -/
def cq_isS1 (X : cq_X) (b : Nat) : Prop := X.1 b = 6 ∧ X.2.2 b 4 = b + 3 ∧ cq_isBook X (b + 3)
theorem cq_isS1.kind {X : cq_X} {b : Nat} (h : cq_isS1 X b) : X.1 b = 6 := h.1
theorem cq_isS1.t4 {X : cq_X} {b : Nat} (h : cq_isS1 X b) : X.2.2 b 4 = b + 3 := h.2.1
theorem cq_isS1.book {X : cq_X} {b : Nat} (h : cq_isS1 X b) : cq_isBook X (b + 3) := h.2.2
def cq_isC1 (X : cq_X) (b : Nat) : Prop := X.1 b = 7 ∧ X.2.2 b 0 = b + 1 ∧ cq_isS1 X (b + 1)
theorem cq_isC1.kind {X : cq_X} {b : Nat} (h : cq_isC1 X b) : X.1 b = 7 := h.1
theorem cq_isC1.t0 {X : cq_X} {b : Nat} (h : cq_isC1 X b) : X.2.2 b 0 = b + 1 := h.2.1
theorem cq_isC1.now {X : cq_X} {b : Nat} (h : cq_isC1 X b) : cq_isS1 X (b + 1) := h.2.2
/-- the shape X1 has all that X has -/
def cq_ge (X X1 : cq_X) : Prop := ∀ x, X.1 x ≠ 0 → X1.1 x = X.1 x ∧ X1.2.1 x = X.2.1 x ∧ X1.2.2 x = X.2.2 x
theorem cq_ge.k {X X1 : cq_X} (h : cq_ge X X1) {x k : Nat} (e : X.1 x = k) (hk : k ≠ 0) : X1.1 x = k := (h x (by rw [e]; exact hk)).1.trans e
theorem cq_ge.n {X X1 : cq_X} (h : cq_ge X X1) {x k n : Nat} (e : X.1 x = k) (hk : k ≠ 0) (e2 : X.2.1 x = n) : X1.2.1 x = n := (h x (by rw [e]; exact hk)).2.1.trans e2
theorem cq_ge.t {X X1 : cq_X} (h : cq_ge X X1) {x k j n : Nat} (e : X.1 x = k) (hk : k ≠ 0) (e2 : X.2.2 x j = n) : X1.2.2 x j = n := (congrFun (h x (by rw [e]; exact hk)).2.2 j).trans e2
theorem cq_isBook.ge {X X1 : cq_X} {a : Nat} (h : cq_isBook X a) (g : cq_ge X X1) : cq_isBook X1 a := ⟨g.k h.kind (by decide), g.t h.kind (by decide) h.t0, g.k h.k1 (by decide), g.n h.k1 (by decide) h.n1, g.t h.kind (by decide) h.t1, g.k h.k2 (by decide), g.n h.k2 (by decide) h.n2, g.t h.kind (by decide) h.t2, g.k h.k3 (by decide), g.n h.k3 (by decide) h.n3⟩
theorem cq_isClock.ge1 {X X1 : cq_X} {b : Nat} (h : cq_isClock X b) (g : cq_ge X X1) : cq_isC1 X1 b := ⟨g.k h.kind (by decide), g.t h.kind (by decide) h.t0, g.k h.now.kind (by decide), g.t h.now.kind (by decide) h.now.t4, h.now.book.ge g⟩
/-- the map of a shape's cells -/
def cs_K (cA : Nat → ClassId) (X : cq_X) (M : cq_M) : cn_K := fun a => if X.1 a = 0 then none else if X.1 a < 10 then some (.inr (X.1 a, cq_o X M (X.1 a) a)) else some (.inl (cA (X.1 a - 10), cq_c (X.1 a - 10) (X.2.1 a) (M a) (X.2.2 a)))
theorem cs_K.of {D : va_G} {cA : Nat → ClassId} {X : cq_X} {Bs : Nat} {M : cq_M} {H : Heap} (h : cq_H D cA X Bs M H) : cn_H D (cs_K cA X M) Bs H := by
  intro a e9 he
  unfold cs_K at he
  by_cases h0 : X.1 a = 0
  · rw [if_pos h0] at he
    cases he
  · rw [if_neg h0] at he
    refine ⟨?_, h.2.2 a h0⟩
    by_cases h1 : X.1 a < 10
    · rw [if_pos h1] at he
      cases he
      exact h.1 a _ rfl (Nat.pos_of_ne_zero h0) h1
    · rw [if_neg h1] at he
      cases he
      exact h.2.1 a _ (by omega)
/-- out of a map that holds the shape's cells -/
theorem cs_K.to {D : va_G} {cA : Nat → ClassId} {X : cq_X} {Bs : Nat} {M : cq_M} {H : Heap} {K : cn_K} (h : cn_H D K Bs H) (hK : ∀ a, X.1 a ≠ 0 → K a = cs_K cA X M a) : cq_H D cA X Bs M H := by
  refine ⟨fun a ci ha h0 h1 => ?_, fun a t ha => ?_, fun a ha => ?_⟩
  · have e9 := hK a (by omega)
    unfold cs_K at e9
    rw [if_neg (by omega), if_pos (by omega)] at e9
    rw [← ha]
    exact (h a _ e9).1
  · have e9 := hK a (by omega)
    unfold cs_K at e9
    rw [if_neg (by omega), if_neg (by omega)] at e9
    rw [show t = X.1 a - 10 by omega]
    exact (h a _ e9).1
  · have e9 := hK a ha
    unfold cs_K at e9
    rw [if_neg ha] at e9
    by_cases h1 : X.1 a < 10
    · rw [if_pos h1] at e9
      exact (h a _ e9).2
    · rw [if_neg h1] at e9
      exact (h a _ e9).2
section CSQ
variable {p : Program} {l : Launch} {e : Env} {R : Room} {s : State} {m : MethodId} {args : Array Value} {below : List Frame} {meth : Method} {c : Code} {D : va_G} {cA : Nat → ClassId} {X : cq_X} {Bs nL cells slots : Nat} {Q : State → Prop} {cc : ByteArray} {own : String} {Ts : List Cond} {pc : Nat} {L : List (Nat × Value)} {st : List Value} {M : cq_M}
/-- back to the narrower shape -/
theorem cq_shrink {X0 : cq_X} {M0 : cq_M} (hX : cq_ge X0 X) (hM : ∀ x, X0.1 x ≠ 0 → M x = M0 x) (k : cq_V p l e R s m args below meth c D cA X0 Bs nL cells slots Q pc L st M0) : cq_V p l e R s m args below meth c D cA X Bs nL cells slots Q pc L st M := fun H locs ls hH hS hL => by
  refine k H locs ls ⟨fun a ci ha h0 h1 => ?_, fun a t ha => ?_, fun a ha => hH.2.2 a (by rw [(hX a ha).1]; exact ha)⟩ hS hL
  · have hn : X0.1 a ≠ 0 := by omega
    have := hH.1 a ci ((hX a hn).1.trans ha) h0 h1
    unfold cq_o cq_v at this ⊢
    rw [(hX a hn).2.2, hM a hn] at this
    exact this
  · have hn : X0.1 a ≠ 0 := by omega
    have := hH.2.1 a t ((hX a hn).1.trans ha)
    rw [(hX a hn).2.1, (hX a hn).2.2, hM a hn] at this
    exact this
/-- new StringBuilder() -/
theorem cq_newSB (F : cq_F p s m args meth c D cA Bs nL cc own Ts) {index idx2 : Nat} (hin : ∀ w ∈ u_ws RJ4 TJ4 4, w ∈ Ts) (hcl : (Cond.classLink own index RJ4).before args s = true) (hinst : (Cond.instantiable RJ4 4).before args s = true) (hini : (Cond.initialized RJ4).before args s = true) (cw : CallB R s args own idx2 yJ4_init_da8c8 cJ4_init_da8c8 1 none wsJ4_init_da8c8 rmJ4_init 1 16 0 ∧ yJ4_init_da8c8.name = "<init>" ∧ (Cond.instanceMethod yJ4_init_da8c8).before args s = true) (hW : (st.map fun v => v.category).sum ≤ 7) (h1 : decode cc pc = .ok (.new index, 3)) (h2 : decode cc (pc + 3) = .ok (.dup, 1)) (h3 : decode cc (pc + 3 + 1) = .ok (.invokespecial idx2, 3)) (hR : cells + 2 ≤ R.cells ∧ slots + 20 ≤ R.slots)
    (k : ∀ (q : Nat) (X1 : cq_X) (M1 : cq_M), (∀ x, X.1 x ≠ 0 → x < q) → cq_isSB X1 q → cq_ge X X1 → (∀ x, x < q → M1 x = M x) → sb_ok M1 q 0 (fun _ => 0) → cq_V p l e R s m args below meth c D cA X1 Bs nL (cells + 1 + 1) (slots + 4 + 16) Q (pc + 3 + 1 + 3) L (.ref q :: st) M1) : cq_V p l e R s m args below meth c D cA X Bs nL cells slots Q pc L st M := fun H locs ls hH hS hL => by
  have hK := cs_K.of hH
  have hlt : ∀ x, X.1 x ≠ 0 → x < H.size := fun x hx => by
    by_cases hx9 : X.1 x < 10
    · exact (hH.1 x _ rfl (Nat.pos_of_ne_zero hx) hx9).lt
    · exact (hH.2.1 x (X.1 x - 10) (by omega)).lt
  generalize hz : H.size = q at hlt
  refine cn_new F (C := RJ4) (T := TJ4) (N := 4) (ci := 9) (fs := [.null, .int 0, .int 0, .int 0]) rfl hin tyJ4 tyJ4_ok hcl hinst hini (fun j hj => by rcases (show j = 0 ∨ j = 1 ∨ j = 2 ∨ j = 3 by omega) with rfl | rfl | rfl | rfl <;> rfl) ⟨by omega, by omega⟩ h1 ?_ H locs ls hz hK hS hL
  refine cn_dup F h2 rfl ?_
  refine cs_callI (As := []) (st := .ref q :: st) F (kJ4_init l D cA Bs q _ (cn_u_s _ _ _)) cw rfl (by simp only [List.map_cons, List.sum_cons]; show 1 + _ ≤ 8; omega) h3 ⟨by omega, by omega⟩ (fun K1 hK1 => ?_)
  obtain ⟨⟨hq0, hq1⟩, hfr⟩ := hK1
  intro H2 locs2 ls2 hz2 hH2 hS2 hL2
  have hx0 : ∀ x, X.1 x ≠ 0 → x ≠ q ∧ x ≠ q + 1 := fun x hx => by have := hlt x hx; omega
  obtain ⟨X1, hX1⟩ : ∃ X1 : cq_X, X1 = (fun x => if x = q then 9 else if x = q + 1 then 18 else X.1 x, fun x => if x = q + 1 then 16 else X.2.1 x, fun x => if x = q then (fun _ => q + 1) else X.2.2 x) := ⟨_, rfl⟩
  obtain ⟨M1, hM1⟩ : ∃ M1 : cq_M, M1 = fun x => if x = q ∨ x = q + 1 then (fun _ => 0) else M x := ⟨_, rfl⟩
  have a1 : X1.1 q = 9 := by rw [hX1]; exact if_pos rfl
  have a2 : X1.1 (q + 1) = 18 := by rw [hX1]; show (if q + 1 = q then 9 else if q + 1 = q + 1 then 18 else X.1 (q + 1)) = 18; rw [if_neg (by omega), if_pos rfl]
  have a3 : X1.2.1 (q + 1) = 16 := by rw [hX1]; exact if_pos rfl
  have a4 : X1.2.2 q = fun _ => q + 1 := by rw [hX1]; exact if_pos rfl
  have a5 : ∀ x, x ≠ q → x ≠ q + 1 → X1.1 x = X.1 x ∧ X1.2.1 x = X.2.1 x ∧ X1.2.2 x = X.2.2 x := fun x g1 g2 => by
    rw [hX1]
    refine ⟨?_, if_neg g2, if_neg g1⟩
    show (if x = q then 9 else if x = q + 1 then 18 else X.1 x) = X.1 x
    rw [if_neg g1, if_neg g2]
  have b1 : ∀ x, x = q ∨ x = q + 1 → M1 x = fun _ => 0 := fun x hx => by rw [hM1]; exact if_pos hx
  have b2 : ∀ x, x ≠ q → x ≠ q + 1 → M1 x = M x := fun x g1 g2 => by rw [hM1]; exact if_neg (by omega)
  have hge : cq_ge X X1 := fun x hx => a5 x (hx0 x hx).1 (hx0 x hx).2
  refine k q X1 M1 hlt ⟨a1, by rw [a4], a2, a3⟩ hge (fun x hx => b2 x (by omega) (by omega)) ⟨by rw [b1 q (.inl rfl)]; rfl, by rw [b1 q (.inl rfl)]; rfl, fun j hj => absurd hj (by omega)⟩ H2 locs2 ls2 (cs_K.to hH2 (fun a ha => ?_)) hS2 hL2
  unfold cs_K
  rw [if_neg ha]
  by_cases g1 : a = q
  · subst g1
    rw [a1, if_pos (by decide), hq0]
    refine congrArg (fun z : List Value => (some (Sum.inr (9, z)) : Option va_E)) ?_
    show _ = [cq_v X1 M1 9 a 0, cq_v X1 M1 9 a 1, cq_v X1 M1 9 a 2, cq_v X1 M1 9 a 3]
    unfold cq_v
    rw [a4, b1 a (.inl rfl)]
    rfl
  · by_cases g2 : a = q + 1
    · subst g2
      rw [a2, if_neg (by decide), hq1, a3, b1 _ (.inr rfl)]
      rfl
    · obtain ⟨c1, c2, c3⟩ := a5 a g1 g2
      rw [c1] at ha ⊢
      rw [c2, c3, hfr a (hlt a ha), cn_u_n g1]
      unfold cs_K
      rw [if_neg ha]
      unfold cq_o cq_v
      rw [c3, b2 a g1 g2]
end CSQ
