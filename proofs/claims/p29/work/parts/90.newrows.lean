/-! NEW OBJECTS: the heap as a map from addresses to cells, of a known size; one row an instruction (out of a short program) -/
abbrev cn_K : Type := Nat → Option va_E
def cn_u (K : cn_K) (a : Nat) (e : va_E) : cn_K := fun x => if x = a then some e else K x
theorem cn_u_s (K : cn_K) (a : Nat) (e : va_E) : cn_u K a e a = some e := if_pos rfl
theorem cn_u_n {K : cn_K} {a x : Nat} {e : va_E} (h : x ≠ a) : cn_u K a e x = K x := if_neg h
def cn_H (D : va_G) (K : cn_K) (Bs : Nat) (H : Heap) : Prop := ∀ (a : Nat) (e : va_E), K a = some e → va_at D vwCl (a, e) H ∧ Bs ≤ a
def cn_V (p : Program) (l : Launch) (e : Env) (R : Room) (s : State) (m : MethodId) (args : Array Value) (below : List Frame) (meth : Method) (c : Code) (D : va_G) (Bs nL cells slots : Nat) (Q : State → Prop) (pc : Nat) (L : List (Nat × Value)) (st : List Value) (K : cn_K) (sz : Nat) : Prop :=
  ∀ (H : Heap) (locs : List Loc) (ls : Array Slot), H.size = sz → cn_H D K Bs H → va_S (cq_A Bs) s.heap H locs → cq_L ls nL L → W p l e R s m args below meth c H locs cells slots Q (F0 m pc ls st)
def va_AOA (ty : FieldType) (U : State) : Prop := (Cond.arrayOver (.array ty)).before #[] U = true
theorem va_AOA.use {ty : FieldType} {A : Array Value} {U : State} (h : va_AOA ty U) : (Cond.arrayOver (.array ty)).before A U = true := h
theorem va_AOA.moved {ty : FieldType} {u U : State} (hvm : u.vm.Alike U.vm) (h : va_AOA ty u) : va_AOA ty U := by
  have h1 := h
  unfold va_AOA Cond.before Cond.holds at h1
  simp only [Cond.value, beq_iff_eq] at h1
  cases hc : u.vm.findClass (FieldType.array ty).toString with
  | none => simp [hc] at h1
  | some comp =>
    simp only [hc, Option.bind_some, Option.bind_eq_some_iff, Option.map_eq_some_iff] at h1
    obtain ⟨c, hi, k, hk, hb⟩ := h1
    obtain ⟨k', hk', he⟩ := hvm.2.2 _ _ hk
    have hb2 : u.vm.bare = U.vm.bare := by first | exact hvm.bare_eq | exact hvm.bare_eq.symm
    have e1 := va_idx_bare u.vm comp
    rw [hb2] at e1
    have hi2 := ((va_idx_bare U.vm comp).symm.trans e1).trans hi
    have f1 : U.vm.findClass (FieldType.array ty).toString = some comp := by rw [hvm.findClass]; exact hc
    have f3 : U.vm.findClass ("[" ++ (FieldType.array ty).toString) = u.vm.findClass ("[" ++ (FieldType.array ty).toString) := by rw [hvm.findClass]
    have hkk : k'.kind = k.kind := by rw [he]
    unfold va_AOA Cond.before Cond.holds
    simp only [Cond.value]
    rw [f1, Option.bind_some]
    refine Eq.trans (congrArg (fun o : Option Nat => (o.bind _) == some true) hi2) ?_
    rw [Option.bind_some, hk', Option.map_some, f3, hkk, hb]
    rfl
/-- the tables' words on arrays of arrays and of objects -/
def cn_O (U : State) : Prop := va_AO "CordClock$Cord" U ∧ va_AO "CordClock$Rule" U ∧ va_AO "CordClock$State" U ∧ va_AOA .int U
theorem cn_O.moved {u U : State} (hvm : u.vm.Alike U.vm) (h : cn_O u) : cn_O U := ⟨h.1.moved hvm, h.2.1.moved hvm, h.2.2.1.moved hvm, h.2.2.2.moved hvm⟩
def cn_P (D : va_G) (cA : Nat → ClassId) (Bs : Nat) (av : List Value) (K : cn_K) (sz : Nat) : Array Value → State → Prop := va_Pc av (fun U => U.heap.size = sz ∧ cn_H D K Bs U.heap ∧ va_K D vwCl (cq_tys cA) U ∧ Bs ≤ U.heap.size ∧ cq_E D Bs U ∧ cn_O U)
def cn_Q (D : va_G) (Bs : Nat) (Post : cn_K → Prop) (sz : Nat) : Array Value → State → Outcome → State → Prop := fun _ st oc t => (∃ K1 : cn_K, oc = .returned none ∧ Post K1 ∧ cn_H D K1 Bs t.heap ∧ t.heap.size = sz) ∧ va_F (cq_A Bs) st t
/-- THE CONTRACT of a constructor: the map, its size before; what the map is behind it, its size -/
def cn_C (l : Launch) (y : MethodName) (ws : List Cond) (rm : Room) (D : va_G) (cA : Nat → ClassId) (Bs : Nat) (av : List Value) (K : cn_K) (sz : Nat) (Post : cn_K → Prop) (sz1 mc ms : Nat) : Prop :=
  Met l y ws rm (cn_P D cA Bs av K sz) (cn_Q D Bs Post sz1) mc ms (cq_A Bs)
theorem cn_blind {D : va_G} {cA : Nat → ClassId} {Bs : Nat} {av : List Value} {K : cn_K} {sz : Nat} : FrameBlind (cn_P D cA Bs av K sz) := fun a U g mk q => by
  obtain ⟨q0, q1, q2, q3, q4, q5, q6⟩ := q
  exact ⟨q0, q1, q2, va_K.moved (u := U) (U := U.calling g mk a) (Vm.Alike.refl U.vm) q3, q4, q5.same rfl rfl, cn_O.moved (u := U) (U := U.calling g mk a) (Vm.Alike.refl U.vm) q6⟩
theorem cn_met {l : Launch} {y : MethodName} {ws ws' : List Cond} {rm : Room} {D : va_G} {cA : Nat → ClassId} {Bs : Nat} {av : List Value} {K : cn_K} {sz : Nat} {Post : cn_K → Prop} {sz1 mc ms : Nat} {cc : ByteArray} {maxL : Nat} {ret : Option FieldType} (hy : plainName y.cls = true) (hw : ws = Cond.code y cc maxL ret :: ws') (hn : (lg_sl av).length ≤ maxL) (L : List (Nat × Value)) (hL : lv_args 0 av = L) (hc : L.all (fun q => Nat.beq q.2.category 1) = true)
    (body : ∀ (p : Program) (e : Env) (s : State) (m : MethodId) (below : List Frame) (meth : Method) (c : Code), cq_F p s m av.toArray meth c D cA Bs maxL cc y.cls ws → meth.sig.returnType = ret → meth.name = y.name → cn_O s → cn_V p l e rm s m av.toArray below meth c D Bs maxL 0 0 (MQ below (cn_Q D Bs Post sz1) av.toArray s mc ms (cq_A Bs)) 0 L [] K sz) : cn_C l y ws rm D cA Bs av K sz Post sz1 mc ms := by
  refine Met.ofW (cc := cc) (maxL := maxL) (ret := ret) hy hw ?_
  intro p e s m args below meth c s₁ B hml hv
  obtain ⟨rfl, hsz, hH, hK, hB, hE, hO⟩ := hv
  have hts := atoms_spec (ws := ws) B.pre
  have h := body p e s m below meth c ⟨⟨B.exec, B.bytes, hml, findClass_of_methodNamed B.named, hts⟩, hK, B.notSynchronized, hB, hE⟩ B.returns (name_of_methodNamed B.named B.method).1 hO
  rw [lg_entry_eq]
  have hl := lv_entry av (n := maxL) hn
  rw [hL] at hl
  exact h s.heap [] _ hsz hH va_S.rf (cq_L.of hl hc)
section CNR
variable {p : Program} {l : Launch} {e : Env} {R : Room} {s : State} {m : MethodId} {args : Array Value} {below : List Frame} {meth : Method} {c : Code} {D : va_G} {cA : Nat → ClassId} {Bs nL cells slots : Nat} {Q : State → Prop} {cc : ByteArray} {own : String} {Ts : List Cond} {pc : Nat} {L : List (Nat × Value)} {st : List Value} {K : cn_K} {sz : Nat}
theorem cn_iconst (F : cq_F p s m args meth c D cA Bs nL cc own Ts) {n : Int} {v : Int32} (hdg : decode cc pc = .ok (.iconst n, 1)) (hv : Int32.ofInt n = v) (k : cn_V p l e R s m args below meth c D Bs nL cells slots Q (pc + 1) L (.int v :: st) K sz) : cn_V p l e R s m args below meth c D Bs nL cells slots Q pc L (st) K sz := fun H locs ls hz hH hS hL => lv_iconst F.1.1 F.1.2.1 hdg hv (k H locs ls hz hH hS hL)
theorem cn_bipush (F : cq_F p s m args meth c D cA Bs nL cc own Ts) {n : Int} {v : Int32} (hdg : decode cc pc = .ok (.bipush n, 2)) (hv : (Int8.ofInt n).toInt32 = v) (k : cn_V p l e R s m args below meth c D Bs nL cells slots Q (pc + 2) L (.int v :: st) K sz) : cn_V p l e R s m args below meth c D Bs nL cells slots Q pc L (st) K sz := fun H locs ls hz hH hS hL => lv_bipush F.1.1 F.1.2.1 hdg hv (k H locs ls hz hH hS hL)
theorem cn_sipush (F : cq_F p s m args meth c D cA Bs nL cc own Ts) {n : Int} {v : Int32} (hdg : decode cc pc = .ok (.sipush n, 3)) (hv : (Int16.ofInt n).toInt32 = v) (k : cn_V p l e R s m args below meth c D Bs nL cells slots Q (pc + 3) L (.int v :: st) K sz) : cn_V p l e R s m args below meth c D Bs nL cells slots Q pc L (st) K sz := fun H locs ls hz hH hS hL => lv_sipush F.1.1 F.1.2.1 hdg hv (k H locs ls hz hH hS hL)
theorem cn_iload_n (F : cq_F p s m args meth c D cA Bs nL cc own Ts) {k : Fin 4} {i : Nat} {x : Int32} (hdg : decode cc pc = .ok (.iload_n k, 1)) (hi : (k : Nat) = i) (hx : L.lookup i = some (.int x)) (k : cn_V p l e R s m args below meth c D Bs nL cells slots Q (pc + 1) L (.int x :: st) K sz) : cn_V p l e R s m args below meth c D Bs nL cells slots Q pc L (st) K sz := fun H locs ls hz hH hS hL => lv_iload_n F.1.1 F.1.2.1 hdg hi (hL.at hx) (k H locs ls hz hH hS hL)
theorem cn_aload_n (F : cq_F p s m args meth c D cA Bs nL cc own Ts) {k : Fin 4} {i : Nat} {x : Nat} (hdg : decode cc pc = .ok (.aload_n k, 1)) (hi : (k : Nat) = i) (hx : L.lookup i = some (.ref x)) (k : cn_V p l e R s m args below meth c D Bs nL cells slots Q (pc + 1) L (.ref x :: st) K sz) : cn_V p l e R s m args below meth c D Bs nL cells slots Q pc L (st) K sz := fun H locs ls hz hH hS hL => lv_aload_n F.1.1 F.1.2.1 hdg hi (hL.at hx) (k H locs ls hz hH hS hL)
theorem cn_dup (F : cq_F p s m args meth c D cA Bs nL cc own Ts) {va : Value} (hdg : decode cc pc = .ok (.dup, 1)) (hva : va.category = 1) (k : cn_V p l e R s m args below meth c D Bs nL cells slots Q (pc + 1) L (va :: va :: st) K sz) : cn_V p l e R s m args below meth c D Bs nL cells slots Q pc L (va :: st) K sz := fun H locs ls hz hH hS hL => lv_dup F.1.1 F.1.2.1 hdg hva (k H locs ls hz hH hS hL)
theorem cn_goto (F : cq_F p s m args meth c D cA Bs nL cc own Ts) {off : Int} {tgt : Nat} (hdg : decode cc pc = .ok (.goto off, 3)) (ht : (pc : Int) + off = (tgt : Int)) (k : cn_V p l e R s m args below meth c D Bs nL cells slots Q tgt L (st) K sz) : cn_V p l e R s m args below meth c D Bs nL cells slots Q pc L (st) K sz := fun H locs ls hz hH hS hL => lv_goto F.1.1 F.1.2.1 hdg ht (k H locs ls hz hH hS hL)
theorem cn_istore_n (F : cq_F p s m args meth c D cA Bs nL cc own Ts) {k : Fin 4} {i : Nat} {x : Int32} (hdg : decode cc pc = .ok (.istore_n k, 1)) (hi : (k : Nat) = i) (hn : i < nL) (k : cn_V p l e R s m args below meth c D Bs nL cells slots Q (pc + 1) ((i, .int x) :: L) st K sz) : cn_V p l e R s m args below meth c D Bs nL cells slots Q pc L (.int x :: st) K sz := fun H locs ls hz hH hS hL => by
  obtain ⟨l9, h1, h2⟩ := hL
  exact lv_istore_n F.1.1 F.1.2.1 hdg hi h1 hn rfl (fun ls2 h3 => k H locs ls2 hz hH hS (cq_L.put h2 h3 rfl))
theorem cn_iinc (F : cq_F p s m args meth c D cA Bs nL cc own Ts) {i : Nat} {n : Int} {x : Int32} (hdg : decode cc pc = .ok (.iinc i n, 3)) (hx : L.lookup i = some (.int x)) (hn : i < nL) (k : ∀ y : Int32, y = x + Int32.ofInt n → cn_V p l e R s m args below meth c D Bs nL cells slots Q (pc + 3) ((i, .int y) :: L) st K sz) : cn_V p l e R s m args below meth c D Bs nL cells slots Q pc L st K sz := fun H locs ls hz hH hS hL => by
  obtain ⟨l9, h1, h2⟩ := hL
  obtain ⟨j, hj⟩ := List.getElem?_of_mem (h2 _ _ hx).1
  exact lv_iinc F.1.1 F.1.2.1 hdg h1 hj rfl hn rfl (fun ls2 h3 => k _ rfl H locs ls2 hz hH hS (cq_L.put h2 h3 rfl))
theorem cn_loc {L2 : List (Nat × Value)} (hl : L2.map (fun q => L.lookup q.1) = L2.map (fun q => some q.2)) (k : cn_V p l e R s m args below meth c D Bs nL cells slots Q pc L2 st K sz) : cn_V p l e R s m args below meth c D Bs nL cells slots Q pc L st K sz := fun H locs ls hz hH hS hL => k H locs ls hz hH hS (hL.sub (cq_subl hl))
theorem cn_sz {sz1 : Nat} (h : sz = sz1) (k : cn_V p l e R s m args below meth c D Bs nL cells slots Q pc L st K sz1) : cn_V p l e R s m args below meth c D Bs nL cells slots Q pc L st K sz := by
  subst h
  exact k
theorem cn_up {K1 : cn_K} {a : Nat} {e9 : va_E} (k : ∀ K2 : cn_K, K2 = cn_u K1 a e9 → cn_V p l e R s m args below meth c D Bs nL cells slots Q pc L st K2 sz) : cn_V p l e R s m args below meth c D Bs nL cells slots Q pc L st (cn_u K1 a e9) sz := k _ rfl
theorem cn_getCS (F : cq_F p s m args meth c D cA Bs nL cc own Ts) {index : Nat} (hlink : (Cond.fieldLink own index "java/lang/String" "COMPACT_STRINGS" "Z").before args s = true) (hdg : decode cc pc = .ok (.getstatic index, 3)) (k : cn_V p l e R s m args below meth c D Bs nL cells slots Q (pc + 3) L (.int 1 :: st) K sz) : cn_V p l e R s m args below meth c D Bs nL cells slots Q pc L st K sz := fun H locs ls hz hH hS hL => va_gets (A := cq_A Bs) F.1.1 F.1.2.1 F.2.2.2.2.cs hS F.1.2.2.2.1 hlink (fun _ h => h) hdg (k H locs ls hz hH hS hL)
theorem cn_widen {k n : Nat} (h1 : cells ≤ k) (h2 : slots ≤ n) (kk : cn_V p l e R s m args below meth c D Bs nL k n Q pc L st K sz) : cn_V p l e R s m args below meth c D Bs nL cells slots Q pc L st K sz := fun H locs ls hz hH hS hL => W.widen h1 h2 (kk H locs ls hz hH hS hL)
theorem cn_icmp_ge (F : cq_F p s m args meth c D cA Bs nL cc own Ts) {x y : Int32} {off : Int} {tgt : Nat} (hdg : decode cc pc = .ok (.if_icmp .ge off, 3)) (ht : (pc : Int) + off = (tgt : Int)) (kt : y ≤ x → cn_V p l e R s m args below meth c D Bs nL cells slots Q tgt L st K sz) (kf : ¬ y ≤ x → cn_V p l e R s m args below meth c D Bs nL cells slots Q (pc + 3) L st K sz) : cn_V p l e R s m args below meth c D Bs nL cells slots Q pc L (.int y :: .int x :: st) K sz := fun H locs ls hz hH hS hL => lv_icmp_ge F.1.1 F.1.2.1 hdg ht (fun h => kt h H locs ls hz hH hS hL) (fun h => kf h H locs ls hz hH hS hL)
theorem cn_if_eq (F : cq_F p s m args meth c D cA Bs nL cc own Ts) {x : Int32} {off : Int} {tgt : Nat} (hdg : decode cc pc = .ok (.ifCond .eq off, 3)) (ht : (pc : Int) + off = (tgt : Int)) (kt : x = 0 → cn_V p l e R s m args below meth c D Bs nL cells slots Q tgt L st K sz) (kf : ¬ x = 0 → cn_V p l e R s m args below meth c D Bs nL cells slots Q (pc + 3) L st K sz) : cn_V p l e R s m args below meth c D Bs nL cells slots Q pc L (.int x :: st) K sz := fun H locs ls hz hH hS hL => lv_if_eq F.1.1 F.1.2.1 hdg ht (fun h => kt h H locs ls hz hH hS hL) (fun h => kf h H locs ls hz hH hS hL)
theorem cn_vret (F : cq_F p s m args meth c D cA Bs nL cc own Ts) {Post : cn_K → Prop} {sz1 mc ms : Nat} (hr : meth.sig.returnType = none) (hc : cells ≤ mc) (hs : slots ≤ ms) (hdg : decode cc pc = .ok (.return_, 1)) (hp : Post K) (hz9 : sz = sz1) : cn_V p l e R s m args below meth c D Bs nL cells slots (MQ below (cn_Q D Bs Post sz1) args s mc ms (cq_A Bs)) pc L [] K sz := fun H locs ls hz hH hS hL => by
  have hlocks := F.2.2.1
  refine W.widen hc hs ?_
  exact W.vret F.1.1 F.1.2.1 hr (fun t ht hW => ⟨⟨K, rfl, hp, by rw [ht]; exact hH, by rw [ht, hz, hz9]⟩, hS.F ht⟩) hS.2.2 hdg hlocks
theorem cn_objInit (F : cq_F p s m args meth c D cA Bs nL cc own Ts) {idx a : Nat} (hlink : (Cond.methodLink own idx objectInit).before args s = true) (hinst : (Cond.instanceMethod objectInit).before args s = true) (hcode : (Cond.code objectInit ⟨#[0xb1]⟩ 1 none).before args s = true) (hdg : decode cc pc = .ok (.invokespecial idx, 3)) (hR : 1 ≤ R.frames ∧ 2 * 0 + (st.map fun v => v.category).sum + 12 ≤ R.locals) (k : cn_V p l e R s m args below meth c D Bs nL cells slots Q (pc + 3) L st K sz) : cn_V p l e R s m args below meth c D Bs nL cells slots Q pc L (.ref a :: st) K sz := fun H locs ls hz hH hS hL =>
  W.objInit F.1.1 F.1.2.1 F.1.2.2.2.1 hlink hinst hcode rfl (by rw [F.1.2.2.1]; exact hL.size) rfl hdg hR.1 hR.2 (W.eq (g2 := F0 m (pc + 3) ls st) rfl (k H locs ls hz hH hS hL))
/-- a new cell at the end of the heap -/
theorem cn_grow {H H1 : Heap} {e9 : va_E} (hH : cn_H D K Bs H) (hz : H.size = sz) (hB : Bs ≤ sz) (h1 : ∀ q, q < sz → H1[q]? = H[q]?) (h2 : va_at D vwCl (sz, e9) H1) : cn_H D (cn_u K sz e9) Bs H1 := by
  intro a e he
  by_cases ha : a = sz
  · subst ha
    rw [cn_u_s] at he
    cases he
    exact ⟨h2, hB⟩
  · rw [cn_u_n ha] at he
    have h3 := hH a e he
    exact ⟨h3.1.kept (h1 _ (by rw [← hz]; exact h3.1.lt)), h3.2⟩
/-- a cell is changed -/
theorem cn_chg {H H1 : Heap} {a : Nat} {e8 e9 : va_E} (hH : cn_H D K Bs H) (hk : K a = some e8) (h1 : ∀ q, q ≠ a → H1[q]? = H[q]?) (h2 : va_at D vwCl (a, e9) H1) : cn_H D (cn_u K a e9) Bs H1 := by
  intro b e he
  by_cases hb : b = a
  · subst hb
    rw [cn_u_s] at he
    cases he
    exact ⟨h2, (hH b e8 hk).2⟩
  · rw [cn_u_n hb] at he
    have h3 := hH b e he
    exact ⟨h3.1.kept (h1 _ hb), h3.2⟩
theorem cn_new (F : cq_F p s m args meth c D cA Bs nL cc own Ts) {C : String} {T : u_T} {N ci index : Nat} (hc : vwCl[ci]? = some (C, T, N)) (hin : ∀ w ∈ u_ws C T N, w ∈ Ts) (ty : Nat → FieldType) (hty : ∀ k, k < N → parseFieldDescriptor (T k).2.2.1 = some (ty k)) (hcl : (Cond.classLink own index C).before args s = true) (hinst : (Cond.instantiable C N).before args s = true) (hini : (Cond.initialized C).before args s = true) {fs : List Value} (hfs : ∀ j, j < N → defaultValue (ty j) = vp_V fs j) (hR : cells + 1 ≤ R.cells ∧ slots + N ≤ R.slots) (hdg : decode cc pc = .ok (.new index, 3)) (k : cn_V p l e R s m args below meth c D Bs nL (cells + 1) (slots + N) Q (pc + 3) L (.ref sz :: st) (cn_u K sz (.inr (ci, fs))) (sz + 1)) : cn_V p l e R s m args below meth c D Bs nL cells slots Q pc L st K sz := fun H locs ls hz hH hS hL => by
  have hKn := F.2.1.1 ci _ hc
  refine W.newcK F.1.1 F.1.2.1 F.1.2.2.2.1 hcl hinst hini rfl hdg hR.1 hR.2 hKn.2.1 hz fun H1 kC hkC e1 z1 o1 => ?_
  have hB : Bs ≤ sz := by rw [← hz]; exact Nat.le_trans F.2.2.2.1 hS.1
  refine k H1 locs ls z1 (cn_grow hH hz hB o1 ⟨_, hc, (u_born ty F.1.2.2.2.2 hin hKn hkC e1 hty).to hfs⟩) ⟨by rw [z1, ← hz]; exact Nat.le_succ_of_le hS.1, fun x h1 h2 => (o1 x (by rw [← hz]; exact Nat.lt_of_lt_of_le h1 hS.1)).trans (hS.2.1 x h1 h2), hS.2.2⟩ hL
theorem cn_newa (F : cq_F p s m args meth c D cA Bs nL cc own Ts) {atype : ArrayType} {t : Nat} {a0 : vp_A} {n : Int32} {N : Nat} (harr : (Cond.arrayClass (newarray.typeOf atype)).before args s = true) (hRA : s.vm.findClass ("[" ++ (newarray.typeOf atype).toString) = some (cA t)) (ha : vp_cell (cA t) a0 = arrV (cA t) N (fun _ => defaultValue (newarray.typeOf atype))) (hn : ¬ n < 0) (hN : n.toNatClampNeg = N) (hbytes : N * componentBytes (newarray.typeOf atype) ≤ 536870912) (hR : cells + 1 ≤ R.cells ∧ slots + N ≤ R.slots) (hdg : decode cc pc = .ok (.newarray atype, 2)) (k : cn_V p l e R s m args below meth c D Bs nL (cells + 1) (slots + N) Q (pc + 2) L (.ref sz :: st) (cn_u K sz (.inl (cA t, a0))) (sz + 1)) : cn_V p l e R s m args below meth c D Bs nL cells slots Q pc L (.int n :: st) K sz := fun H locs ls hz hH hS hL => by
  have hB : Bs ≤ sz := by rw [← hz]; exact Nat.le_trans F.2.2.2.1 hS.1
  refine va_newaK F.1.1 F.1.2.1 harr rfl hdg rfl hn hN hbytes hR.1 hR.2 hz fun H1 c9 e1 z1 o1 hAr hNm => ?_
  have ec : c9 = cA t := Option.some.inj (hNm.symm.trans hRA)
  refine k H1 locs ls z1 (cn_grow hH hz hB o1 ?_) ⟨by rw [z1, ← hz]; exact Nat.le_succ_of_le hS.1, fun x h1 h2 => (o1 x (by rw [← hz]; exact Nat.lt_of_lt_of_le h1 hS.1)).trans (hS.2.1 x h1 h2), hS.2.2⟩ hL
  show H1[sz]? = some (vp_cell (cA t) a0)
  rw [ha, ← ec]
  exact e1
theorem cn_newq (F : cq_F p s m args meth c D cA Bs nL cc own Ts) {C : String} {index t : Nat} {n : Int32} {N : Nat} (hcl : (Cond.classLink own index C).before args s = true) (hover : (Cond.arrayOver (.object C)).before args s = true) (hRA : s.vm.findClass ("[" ++ (FieldType.object C).toString) = some (cA t)) (hn : ¬ n < 0) (hN : n.toNatClampNeg = N) (hbytes : N * 4 ≤ 536870912) (hR : cells + 1 ≤ R.cells ∧ slots + N ≤ R.slots) (hdg : decode cc pc = .ok (.anewarray index, 3)) (k : cn_V p l e R s m args below meth c D Bs nL (cells + 1) (slots + N) Q (pc + 3) L (.ref sz :: st) (cn_u K sz (.inl (cA t, N, .inr (.inr (.inr (.inr (fun _ => none))))))) (sz + 1)) : cn_V p l e R s m args below meth c D Bs nL cells slots Q pc L (.int n :: st) K sz := fun H locs ls hz hH hS hL => by
  subst hN
  have hB : Bs ≤ sz := by rw [← hz]; exact Nat.le_trans F.2.2.2.1 hS.1
  refine W.anew F.1.1 F.1.2.1 F.1.2.2.2.1 hcl hover rfl hdg rfl hn hbytes hR.1 hR.2 fun c9 kA comp f1 f2 f3 f4 => ?_
  have ec : c9 = cA t := Option.some.inj (f1.symm.trans hRA)
  subst ec
  generalize hH1 : H.push ({ cls := cA t, slots := Array.replicate n.toNatClampNeg .null, vm := .none } : Cell) = H1
  have z1 : H1.size = sz + 1 := by rw [← hH1, Array.size_push, hz]
  have e1 : H1[sz]? = some (arrV (cA t) n.toNatClampNeg (fun _ => .null)) := by rw [← hH1, ← hz, Array.getElem?_push_size, ← arrV_new]
  have o1 : ∀ q : Nat, q < sz → H1[q]? = H[q]? := fun q hq => by rw [← hH1, Array.getElem?_push, if_neg (by omega)]
  have k2 := k H1 locs ls z1 (cn_grow hH hz hB o1 (by show H1[sz]? = some (vp_cell _ _); rw [vp_cell_q]; exact e1)) ⟨by rw [z1, ← hz]; exact Nat.le_succ_of_le hS.1, fun x h1 h2 => (o1 x (by rw [← hz]; exact Nat.lt_of_lt_of_le h1 hS.1)).trans (hS.2.1 x h1 h2), hS.2.2⟩ hL
  rw [hz]
  exact k2
theorem cn_putF (F : cq_F p s m args meth c D cA Bs nL cc own Ts) {a ci : Nat} {fs : List Value} {C : String} {T : u_T} {N index : Nat} (hK9 : K a = some (.inr (ci, fs))) (hc : vwCl[ci]? = some (C, T, N)) (hin : ∀ w ∈ u_ws C T N, w ∈ Ts) (ty0 : Nat → FieldType) (hty : ∀ k, k < N → parseFieldDescriptor (T k).2.2.1 = some (ty0 k)) (hnm : ∀ a, a < N → ∀ b, b < N → a ≠ b → (T a).2.1 ≠ (T b).2.1) (kf : Nat) (hk : kf < N) (hlink : (Cond.fieldLink own index (T kf).1 (T kf).2.1 (T kf).2.2.1).before args s = true) (hfin : (T kf).2.2.2 = true) (hin2 : meth.name = "<init>") (hdecl : (T kf).1 = own) {v : Value} (hn : narrow (ty0 kf) v = v) (hfit : fits (ty0 kf) v = true) (hl : kf < fs.length) (hdg : decode cc pc = .ok (.putfield index, 3)) (k : cn_V p l e R s m args below meth c D Bs nL cells slots Q (pc + 3) L st (cn_u K a (.inr (ci, fs.set kf v))) sz) : cn_V p l e R s m args below meth c D Bs nL cells slots Q pc L (v :: .ref a :: st) K sz := fun H locs ls hz hH hS0 hL => by
  have hts := F.1.2.2.2.2
  have hown := F.1.2.2.2.1
  have hap := va_apart (own := own) hts hin ty0 hty hnm F.2.1 hc
  have hat := hH a _ hK9
  obtain ⟨r, h1, cell, q1, q2, q3, q4⟩ := hat.1
  have hr : r = (C, T, N) := Option.some.inj (h1.symm.trans hc)
  subst hr
  obtain ⟨hS, hfc, kC, hkC, hkind⟩ := F.2.1.1 ci _ hc
  obtain ⟨cf, kf2, fi, f, hi, hsl⟩ := hS kf hk
  have hlay := hts _ (hin _ (u_in_lay hk))
  unfold u_lay at hlay
  rw [if_pos hfin] at hlay
  have hst := (u_facts hfc hkC (u_lays hts hin hk) hi).1
  have hcf : m.cls = cf := by
    obtain ⟨_, _, c', _, _, _, -, -, hf', -, -, -, hown2, -⟩ := Cond.laysFinal_spec hlay
    have e1 : c' = cf := by have := hi.symm.trans hf'; simp at this; exact this.1.symm
    rw [hdecl] at hown2
    rw [← e1]; exact Option.some.inj (hown.symm.trans hown2)
  have h6 := u_fits hfc hkC hkind (Or.inr hlay) hi (hty kf hk) hn hfit
  refine W.putFinK F.1.1 F.1.2.1 hown hlink hi hst hcf hin2 (by rw [q2]; exact h6) q1 q3 (by rw [hsl]; exact k2_hasslot (q4 kf hk)) rfl rfl hdg fun H' e1 e2 e3 => ?_
  rw [hsl] at e1 ⊢
  exact k H' _ ls (by rw [e2, hz]) (cn_chg hH hK9 e3 ⟨_, hc, t_OB.to (V := updV (vp_V fs) kf v) ⟨_, e1, q2, q3, t_set q4 hap hk v⟩ (fun j _ => vp_updV_set hl v j)⟩) (hS0.put e2 e3 hat.2) hL
theorem cn_put (F : cq_F p s m args meth c D cA Bs nL cc own Ts) {a ci : Nat} {fs : List Value} {C : String} {T : u_T} {N index : Nat} (hK9 : K a = some (.inr (ci, fs))) (hc : vwCl[ci]? = some (C, T, N)) (hin : ∀ w ∈ u_ws C T N, w ∈ Ts) (ty0 : Nat → FieldType) (hty : ∀ k, k < N → parseFieldDescriptor (T k).2.2.1 = some (ty0 k)) (hnm : ∀ a, a < N → ∀ b, b < N → a ≠ b → (T a).2.1 ≠ (T b).2.1) (kf : Nat) (hk : kf < N) (hlink : (Cond.fieldLink own index (T kf).1 (T kf).2.1 (T kf).2.2.1).before args s = true) (hfin : (T kf).2.2.2 = false) {v : Value} (hn : narrow (ty0 kf) v = v) (hfit : fits (ty0 kf) v = true) (hl : kf < fs.length) (hdg : decode cc pc = .ok (.putfield index, 3)) (k : cn_V p l e R s m args below meth c D Bs nL cells slots Q (pc + 3) L st (cn_u K a (.inr (ci, fs.set kf v))) sz) : cn_V p l e R s m args below meth c D Bs nL cells slots Q pc L (v :: .ref a :: st) K sz := fun H locs ls hz hH hS0 hL => by
  have hts := F.1.2.2.2.2
  have hap := va_apart (own := own) hts hin ty0 hty hnm F.2.1 hc
  have hat := hH a _ hK9
  obtain ⟨r, h1, cell, q1, q2, q3, q4⟩ := hat.1
  have hr : r = (C, T, N) := Option.some.inj (h1.symm.trans hc)
  subst hr
  obtain ⟨hSl, hfc, kC, hkC, hkind⟩ := F.2.1.1 ci _ hc
  obtain ⟨cf, kf2, fi, f, hi, hsl⟩ := hSl kf hk
  have hlay := hts _ (hin _ (u_in_lay hk))
  unfold u_lay at hlay
  rw [if_neg (by rw [hfin]; decide)] at hlay
  have hst := (u_facts hfc hkC (u_lays hts hin hk) hi).1
  have h6 := u_store (v := v) hfc hkC hkind hlay hi (hty kf hk) hn hfit
  refine W.putK F.1.1 F.1.2.1 (f := f) ⟨F.1.2.2.2.1, hlink, ⟨_, _, _, hi⟩, hst⟩ (by rw [q2]; exact h6) q1 q3 (by rw [hsl]; exact k2_hasslot (q4 kf hk)) rfl rfl hdg fun H' e1 e2 e3 => ?_
  rw [hsl] at e1 ⊢
  exact k H' _ ls (by rw [e2, hz]) (cn_chg hH hK9 e3 ⟨_, hc, t_OB.to (V := updV (vp_V fs) kf v) ⟨_, e1, q2, q3, t_set q4 hap hk v⟩ (fun j _ => vp_updV_set hl v j)⟩) (hS0.put e2 e3 hat.2) hL
theorem cn_get (F : cq_F p s m args meth c D cA Bs nL cc own Ts) {a ci : Nat} {fs : List Value} {C : String} {T : u_T} {N index : Nat} (hK9 : K a = some (.inr (ci, fs))) (hc : vwCl[ci]? = some (C, T, N)) (hin : ∀ w ∈ u_ws C T N, w ∈ Ts) (kf : Nat) (hk : kf < N) (hlink : (Cond.fieldLink own index (T kf).1 (T kf).2.1 (T kf).2.2.1).before args s = true) {v : Value} (hv : fs[kf]? = some v) (hdg : decode cc pc = .ok (.getfield index, 3)) (k : cn_V p l e R s m args below meth c D Bs nL cells slots Q (pc + 3) L (v :: st) K sz) : cn_V p l e R s m args below meth c D Bs nL cells slots Q pc L (.ref a :: st) K sz := fun H locs ls hz hH hS hL =>
  va_get (q0 := 0) F.1.1 F.1.2.1 F.1.2.2.2.2 hin F.1.2.2.2.1 F.2.1 (cq_one (hH a _ hK9).1) rfl hc kf hk hlink (fun _ h => h) hv hdg (k H locs ls hz hH hS hL)
theorem cn_aast (F : cq_F p s m args meth c D cA Bs nL cc own Ts) {a v ci t n j : Nat} {fs : List Value} {f : Nat → Option Nat} {r : vw_C} {i : Int32} (hK9 : K a = some (.inl (cA t, n, .inr (.inr (.inr (.inr f)))))) (hKv : K v = some (.inr (ci, fs))) (hc : vwCl[ci]? = some r) (hRA : va_RA s (cA t) (.object r.1)) (hi : i = nI j) (hj : j < n ∧ n < 2147483648) (hdg : decode cc pc = .ok (.aastore, 1)) (k : cn_V p l e R s m args below meth c D Bs nL cells slots Q (pc + 1) L st (cn_u K a (.inl (cA t, n, .inr (.inr (.inr (.inr (va_up f j (some v)))))))) sz) : cn_V p l e R s m args below meth c D Bs nL cells slots Q pc L (.ref v :: .int i :: .ref a :: st) K sz := fun H locs ls hz hH hS hL => by
  subst hi
  have ej : (nI j).toNatClampNeg = j := nI_clamp (Nat.lt_trans hj.1 hj.2)
  have h0 : ¬ nI j < 0 := nI_pos (Nat.lt_trans hj.1 hj.2)
  have hat := hH a _ hK9
  obtain ⟨r', hr', cellV, g1, g2, g3, -⟩ := (hH v _ hKv).1
  have hcls := (F.2.1.1 ci r hc).2
  obtain ⟨kA, comp, k1, k2, k3, -⟩ := hRA
  have hcomp : comp = D.1 ci := Option.some.inj (k3.symm.trans hcls.1)
  subst hcomp
  obtain ⟨kC, hkC, -⟩ := hcls.2
  refine W.aast F.1.1 F.1.2.1 hat.1 (fun q h => by cases h) (fun h => by cases h) k1 k2 rfl hkC ⟨h0, by show _ < (arrV _ _ _).slots.size; rw [arrV_size, ej]; exact hj.1⟩ g1 (fun q h => by rw [g3] at h; cases h) (by rw [g2]; exact hkC) (by rw [g2]; exact va_assign hcls) rfl rfl hdg fun H1 e z oq => ?_
  refine k H1 _ ls (by rw [z, hz]) (cn_chg hH hK9 oq ?_) (hS.put z oq hat.2) hL
  show H1[a]? = some (vp_cell _ _)
  rw [e, vp_cell_q, vp_cell_q, arrV_store, ej]
  congr 2
  funext q
  by_cases hq : q = j
  · subst hq
    simp [updV, va_up, va_rf]
  · simp [updV, va_up, hq]
theorem cn_back {mc ms sz1 : Nat} {st0 rest : List Value} {a : Array Value} {Post : cn_K → Prop} (F : cq_F p s m args meth c D cA Bs nL cc own Ts) {H : Heap} {locs : List Loc} {ls : Array Slot} (hS : va_S (cq_A Bs) s.heap H locs) (hL : cq_L ls nL L) (hr : va_Run p l e R s m args below meth c H locs cells slots mc ms (F0 m pc ls st0) rest (cn_Q D Bs Post sz1 a) (cq_A Bs)) (k : ∀ K1 : cn_K, Post K1 → cn_V p l e R s m args below meth c D Bs nL (cells + mc) (slots + ms) Q (pc + 3) L rest K1 sz1) : W p l e R s m args below meth c H locs cells slots Q (F0 m pc ls st0) := by
  intro T hT X9
  obtain ⟨v, st₀, t, T', L9, h0, X', hL9, e1, e2, ⟨⟨K1, hv, hp, hH1, hz1⟩, hz, hk⟩, go⟩ := hr T hT X9
  cases hv
  rw [h0] at hz hk
  have hS1 : va_S (cq_A Bs) s.heap T'.heap (locs ++ L9) := by
    refine ⟨by rw [e1]; exact Nat.le_trans hS.1 hz, fun q h1 h2 => ?_, fun q hq => ?_⟩
    · rw [e1, hk q (Nat.lt_of_lt_of_le h1 hS.1) h2]
      exact hS.2.1 q h1 h2
    · rcases List.mem_append.mp hq with h | h
      · exact hS.2.2 q h
      · exact hL9 q h
  obtain ⟨t2, a1, b1⟩ := k K1 hp T'.heap (locs ++ L9) ls (by rw [e1]; exact hz1) (by rw [e1]; exact hH1) hS1 hL T' rfl X'
  exact ⟨t2, go t2 a1, b1⟩
theorem cn_callI (F : cq_F p s m args meth c D cA Bs nL cc own Ts) (O : cn_O s) {y : MethodName} {bytes : ByteArray} {maxL mc ms n index b sz1 : Nat} {ws : List Cond} {rm : Room} {Post : cn_K → Prop} {As : List Value} (hM : cn_C l y ws rm D cA Bs (.ref b :: As) K sz Post sz1 mc ms) (cw : CallB R s args own index y bytes maxL none ws rm mc ms n ∧ y.name = "<init>" ∧ (Cond.instanceMethod y).before args s = true) (hn : As.length = n) (hW : (st.map fun v => v.category).sum ≤ 8) (hdg : decode cc pc = .ok (.invokespecial index, 3)) (hf : cells + mc ≤ R.cells ∧ slots + ms ≤ R.slots) (k : ∀ K1 : cn_K, Post K1 → cn_V p l e R s m args below meth c D Bs nL (cells + mc) (slots + ms) Q (pc + 3) L st K1 sz1) : cn_V p l e R s m args below meth c D Bs nL cells slots Q pc L (As.reverse ++ .ref b :: st) K sz := fun H locs ls hz hH hS hL =>
  cn_back F hS hL (va_runI (As := As) (rest := st) F.1 hM cw ⟨cn_blind, fun U hU hW2 => ⟨rfl, by rw [hU]; exact hz, by rw [hU]; exact hH, va_K.moved hW2.alike F.2.1, by rw [hU]; exact Nat.le_trans F.2.2.2.1 hS.1, F.2.2.2.2.go hW2 (fun a h1 h2 => by rw [hU]; exact hS.2.1 a h1 h2), O.moved hW2.alike⟩⟩ rfl hn hL.size rfl (lv_room hW) hdg hf) k
theorem cn_callIN (F : cq_F p s m args meth c D cA Bs nL cc own Ts) (O : cn_O s) {y : MethodName} {host : String} {bytes : ByteArray} {maxL mc ms n index b sz1 : Nat} {ws : List Cond} {rm : Room} {Post : cn_K → Prop} {As : List Value} (hM : cn_C l y ws rm D cA Bs (.ref b :: As) K sz Post sz1 mc ms) (cw : va_CN R s args own index y host bytes maxL none ws rm mc ms n ∧ y.name = "<init>" ∧ (Cond.instanceMethod y).before args s = true) (hn : As.length = n) (hW : (st.map fun v => v.category).sum ≤ 8) (hdg : decode cc pc = .ok (.invokespecial index, 3)) (hf : cells + mc ≤ R.cells ∧ slots + ms ≤ R.slots) (k : ∀ K1 : cn_K, Post K1 → cn_V p l e R s m args below meth c D Bs nL (cells + mc) (slots + ms) Q (pc + 3) L st K1 sz1) : cn_V p l e R s m args below meth c D Bs nL cells slots Q pc L (As.reverse ++ .ref b :: st) K sz := fun H locs ls hz hH hS hL =>
  cn_back F hS hL (va_runIN (As := As) (rest := st) F.1 hM cw ⟨cn_blind, fun U hU hW2 => ⟨rfl, by rw [hU]; exact hz, by rw [hU]; exact hH, va_K.moved hW2.alike F.2.1, by rw [hU]; exact Nat.le_trans F.2.2.2.1 hS.1, F.2.2.2.2.go hW2 (fun a h1 h2 => by rw [hU]; exact hS.2.1 a h1 h2), O.moved hW2.alike⟩⟩ rfl hn hL.size rfl (lv_room hW) hdg hf) k
end CNR
