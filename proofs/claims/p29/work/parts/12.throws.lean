/-! methods that return or throw, over the memory -/
def cq_XC (D : va_G) (cA : Nat → ClassId) (X : cq_X) (Bs : Nat) (XP : String → cq_M → Prop) : String → State → State → Prop := fun E st t => (∃ M1 : cq_M, XP E M1 ∧ cq_H D cA X Bs M1 t.heap) ∧ va_F (cq_A Bs) st t
/-- THE CONTRACT of a method that returns or throws -/
def cq_T (l : Launch) (y : MethodName) (ws : List Cond) (rm : Room) (D : va_G) (cA : Nat → ClassId) (X : cq_X) (Bs : Nat) (av : List Value) (M : cq_M) (Post : Option Value → cq_M → Prop) (XP : String → cq_M → Prop) (mc ms : Nat) : Prop :=
  vx_Met l y ws rm (cq_P D cA X Bs av M) (cq_Q D cA X Bs Post) (cq_XC D cA X Bs XP) mc ms (cq_A Bs)
theorem cq_met9 {l : Launch} {y : MethodName} {ws ws' : List Cond} {rm : Room} {D : va_G} {cA : Nat → ClassId} {X : cq_X} {Bs : Nat} {av : List Value} {M : cq_M} {Post : Option Value → cq_M → Prop} {XP : String → cq_M → Prop} {mc ms : Nat} {cc : ByteArray} {maxL : Nat} {ret : Option FieldType} (hy : plainName y.cls = true) (hw : ws = Cond.code y cc maxL ret :: ws') (hn : (lg_sl av).length ≤ maxL) (L : List (Nat × Value)) (hL : lv_args 0 av = L) (hc : L.all (fun q => Nat.beq q.2.category 1) = true)
    (body : ∀ (p : Program) (e : Env) (s : State) (m : MethodId) (below : List Frame) (meth : Method) (c : Code), cq_F p s m av.toArray meth c D cA Bs maxL cc y.cls ws → meth.sig.returnType = ret → (∀ x ∈ c.exceptionTable.toList, False) → cq_V p l e rm s m av.toArray below meth c D cA X Bs maxL 0 0 (vx_MQ below (cq_Q D cA X Bs Post) (cq_XC D cA X Bs XP) av.toArray s mc ms (cq_A Bs)) 0 L [] M) : cq_T l y ws rm D cA X Bs av M Post XP mc ms := by
  refine vx_ofW (cc := cc) (maxL := maxL) (ret := ret) hy hw ?_
  intro p e s m args below meth c s₁ B hml hex hv
  obtain ⟨rfl, hH, hK, hB, hE⟩ := hv
  have hts := atoms_spec (ws := ws) B.pre
  have h := body p e s m below meth c ⟨⟨B.exec, B.bytes, hml, findClass_of_methodNamed B.named, hts⟩, hK, B.notSynchronized, hB, hE⟩ B.returns hex
  rw [lg_entry_eq]
  have hl := lv_entry av (n := maxL) hn
  rw [hL] at hl
  exact h s.heap [] _ hH va_S.rf (cq_L.of hl hc)
section CQT
variable {p : Program} {l : Launch} {e : Env} {R : Room} {s : State} {m : MethodId} {args : Array Value} {below : List Frame} {meth : Method} {c : Code} {D : va_G} {cA : Nat → ClassId} {X : cq_X} {Bs nL cells slots : Nat} {Q : State → Prop} {cc : ByteArray} {own : String} {Ts : List Cond} {pc : Nat} {L : List (Nat × Value)} {st : List Value} {M : cq_M} {Post : Option Value → cq_M → Prop} {XP : String → cq_M → Prop} {mc ms : Nat}
/-- its return is a return -/
theorem cq_ret9 (k : cq_V p l e R s m args below meth c D cA X Bs nL cells slots (MQ below (cq_Q D cA X Bs Post) args s mc ms (cq_A Bs)) pc L st M) : cq_V p l e R s m args below meth c D cA X Bs nL cells slots (vx_MQ below (cq_Q D cA X Bs Post) (cq_XC D cA X Bs XP) args s mc ms (cq_A Bs)) pc L st M := fun H locs ls hH hS hL => vx_ret (k H locs ls hH hS hL)
/-- the words that no list of a method holds: carried from state to state -/
def cq_no : List Cond := cq_dw.map (fun x => .declares x) ++ cq_kw.map (fun q => .castable q.1 q.2)
theorem cq_now (E : cq_E D Bs s) : ∀ w ∈ cq_no, w.before args s = true := by
  intro w hw
  rcases List.mem_append.mp hw with h | h
  · obtain ⟨x, hx, rfl⟩ := List.mem_map.mp h
    exact va_Nw.use rfl (E.2.2.2.2.2.2.1 x hx)
  · obtain ⟨q, hq, rfl⟩ := List.mem_map.mp h
    exact va_Nw.use rfl (E.2.2.2.2.2.2.2.1 q hq)
def cq_nms : List String := ["java/lang/RuntimeException", "java/lang/Exception"]
theorem cq_throw (F : cq_F p s m args meth c D cA Bs nL cc own Ts) (hl : l.stackTraces = false) (hex : ∀ x ∈ c.exceptionTable.toList, False) {cls text : String} {ik is ic : Nat} (h1 : Bundle.fit cls = true) (hk : (Cond.classLink own ik cls).before args s = true) (hini : (Cond.initialized cls).before args s = true) (hstr : (own, is, text) ∈ cq_sr) (hat1 : ∀ w ∈ (vx_atS own ic cls cq_nms).filter goodWord, w.before args s = true) (hat2 : ∀ w ∈ (vx_atS own ic cls cq_nms).filter (fun w => !goodWord w), w ∈ cq_no) (hgood : ∀ w ∈ Cond.classLink own ik cls :: Cond.initialized cls :: vx_atS own ic cls cq_nms, vx_ot w = true)
    (d0 : decode cc pc = .ok (.new ik, 3)) (d3 : decode cc (pc + 3) = .ok (.dup, 1)) (d4 : decode cc (pc + 4) = .ok (.ldc is, 2)) (d6 : decode cc (pc + 6) = .ok (.invokespecial ic, 3)) (d9 : decode cc (pc + 9) = .ok (.athrow, 1))
    (hR : 5 < R.frames ∧ (st.map fun v => v.category).sum + 82 ≤ R.locals ∧ cells + 1 ≤ R.cells ∧ slots + 6 ≤ R.slots) (hc : cells + 1 ≤ mc ∧ slots + 6 ≤ ms) (hx : XP cls M) : cq_V p l e R s m args below meth c D cA X Bs nL cells slots (vx_MQ below (cq_Q D cA X Bs Post) (cq_XC D cA X Bs XP) args s mc ms (cq_A Bs)) pc L st M := fun H locs ls hH hS hL => by
  obtain ⟨sa, hsa⟩ := F.2.2.2.2.2.2.1 _ hstr
  refine vx_throwS (A := cq_A Bs) F.1.1 F.1.2.1 hl F.1.2.2.2.1 h1 (by decide +kernel) hk hini hsa (vx_hat hat1 hat2 (cq_now F.2.2.2.2)) hgood F.2.2.2.2.2.2.2.1 F.2.2.2.2.2.2.2.2.1 hS (hL.size.trans F.1.2.2.1.symm) d0 d3 d4 d6 d9 (fun x h => (hex x h).elim) hR.1 hR.2.1 hR.2.2.1 hR.2.2.2 F.2.2.1 (fun t ht hz hq => ⟨⟨M, hx, ?_⟩, Nat.le_trans hS.1 hz, fun q h3 h4 => ?_⟩) hS.2.2 hc.1 hc.2
  · exact ⟨fun a ci h5 h6 h7 => (hH.1 a ci h5 h6 h7).kept (hq _ (hH.1 a ci h5 h6 h7).lt), fun a t9 h5 => (hH.2.1 a t9 h5).kept (hq _ (hH.2.1 a t9 h5).lt), hH.2.2⟩
  · rw [hq q (Nat.lt_of_lt_of_le h3 hS.1)]
    exact hS.2.1 q h3 h4
theorem cq_throwW (F : cq_F p s m args meth c D cA Bs nL cc own Ts) (hl : l.stackTraces = false) (hex : ∀ x ∈ c.exceptionTable.toList, False) {cls text : String} {ik is ic : Nat} (h1 : Bundle.fit cls = true) (hk : (Cond.classLink own ik cls).before args s = true) (hini : (Cond.initialized cls).before args s = true) (hstr : (own, is, text) ∈ cq_sr) (hat1 : ∀ w ∈ (vx_atS own ic cls cq_nms).filter goodWord, w.before args s = true) (hat2 : ∀ w ∈ (vx_atS own ic cls cq_nms).filter (fun w => !goodWord w), w ∈ cq_no) (hgood : ∀ w ∈ Cond.classLink own ik cls :: Cond.initialized cls :: vx_atS own ic cls cq_nms, vx_ot w = true)
    (d0 : decode cc pc = .ok (.new ik, 3)) (d3 : decode cc (pc + 3) = .ok (.dup, 1)) (d4 : decode cc (pc + 4) = .ok (.ldc_w is, 3)) (d7 : decode cc (pc + 7) = .ok (.invokespecial ic, 3)) (d10 : decode cc (pc + 10) = .ok (.athrow, 1))
    (hR : 5 < R.frames ∧ (st.map fun v => v.category).sum + 82 ≤ R.locals ∧ cells + 1 ≤ R.cells ∧ slots + 6 ≤ R.slots) (hc : cells + 1 ≤ mc ∧ slots + 6 ≤ ms) (hx : XP cls M) : cq_V p l e R s m args below meth c D cA X Bs nL cells slots (vx_MQ below (cq_Q D cA X Bs Post) (cq_XC D cA X Bs XP) args s mc ms (cq_A Bs)) pc L st M := fun H locs ls hH hS hL => by
  obtain ⟨sa, hsa⟩ := F.2.2.2.2.2.2.1 _ hstr
  refine vx_throwSW (A := cq_A Bs) F.1.1 F.1.2.1 hl F.1.2.2.2.1 h1 (by decide +kernel) hk hini hsa (vx_hat hat1 hat2 (cq_now F.2.2.2.2)) hgood F.2.2.2.2.2.2.2.1 F.2.2.2.2.2.2.2.2.1 hS (hL.size.trans F.1.2.2.1.symm) d0 d3 d4 d7 d10 (fun x h => (hex x h).elim) hR.1 hR.2.1 hR.2.2.1 hR.2.2.2 F.2.2.1 (fun t ht hz hq => ⟨⟨M, hx, ?_⟩, Nat.le_trans hS.1 hz, fun q h3 h4 => ?_⟩) hS.2.2 hc.1 hc.2
  · exact ⟨fun a ci h5 h6 h7 => (hH.1 a ci h5 h6 h7).kept (hq _ (hH.1 a ci h5 h6 h7).lt), fun a t9 h5 => (hH.2.1 a t9 h5).kept (hq _ (hH.2.1 a t9 h5).lt), hH.2.2⟩
  · rw [hq q (Nat.lt_of_lt_of_le h3 hS.1)]
    exact hS.2.1 q h3 h4
/-- behind a call of a method that returns or throws: two walks -/
theorem cq_back9 {mc1 ms1 : Nat} {st0 rest : List Value} {a : Array Value} {Post1 : Option Value → cq_M → Prop} {XP1 : String → cq_M → Prop} {H : Heap} {locs : List Loc} {ls : Array Slot} (hS : va_S (cq_A Bs) s.heap H locs) (hL : cq_L ls nL L) (hr : vx_Run p l e R s m args below meth c H locs cells slots mc1 ms1 (F0 m pc ls st0) rest (cq_Q D cA X Bs Post1 a) (cq_XC D cA X Bs XP1) (cq_A Bs))
    (kx : ∀ (E : String) (M1 : cq_M), XP1 E M1 → ∀ (H1 : Heap) (locs1 : List Loc) (q9 : Addr) (ce : Cell), cq_H D cA X Bs M1 H1 → va_S (cq_A Bs) s.heap H1 locs1 → H1[q9]? = some ce → ce.vm = .none → s.vm.findClass E = some ce.cls → vx_W p l e R s m args below meth c H1 locs1 (cells + mc1) (slots + ms1) Q (F0 m pc ls rest) q9)
    (k : ∀ (rv : Option Value) (M1 : cq_M), Post1 rv M1 → cq_V p l e R s m args below meth c D cA X Bs nL (cells + mc1) (slots + ms1) Q (pc + 3) L (rv.toList ++ rest) M1) : W p l e R s m args below meth c H locs cells slots Q (F0 m pc ls st0) := by
  have hS1 : ∀ (t : State) (T' : State) (L9 : List Loc), T'.heap = t.heap → H.size ≤ t.heap.size → (∀ q : Nat, q < H.size → ¬ cq_A Bs q → t.heap[q]? = H[q]?) → (∀ z ∈ L9, cq_A Bs z.base) → va_S (cq_A Bs) s.heap T'.heap (locs ++ L9) := by
    intro t T' L9 e1 hz hk hL9
    refine ⟨by rw [e1]; exact Nat.le_trans hS.1 hz, fun q h1 h2 => ?_, fun q hq => ?_⟩
    · rw [e1, hk q (Nat.lt_of_lt_of_le h1 hS.1) h2]
      exact hS.2.1 q h1 h2
    · rcases List.mem_append.mp hq with h | h
      · exact hS.2.2 q h
      · exact hL9 q h
  intro T hT X9
  rcases hr T hT X9 with ⟨v, st₀, t, T', L9, h0, X', hL9, e1, e2, ⟨⟨rv, M1, hv, hp, hH1⟩, hz, hk⟩, go⟩ | ⟨q, st₀, t, T', L9, E, ce, h0, X', hL9, e1, e2, ⟨⟨M1, hp, hH1⟩, hz, hk⟩, hce, hcv, hcl, go⟩
  · cases hv
    rw [h0] at hz hk
    obtain ⟨t2, a1, b1⟩ := k v M1 hp T'.heap (locs ++ L9) ls (by rw [e1]; exact hH1) (hS1 t T' L9 e1 hz hk hL9) hL T' rfl X'
    exact ⟨t2, go t2 a1, b1⟩
  · rw [h0] at hz hk
    obtain ⟨t2, a1, b1⟩ := kx E M1 hp T'.heap (locs ++ L9) q ce (by rw [e1]; exact hH1) (hS1 t T' L9 e1 hz hk hL9) (by rw [e1]; exact hce) hcv hcl T' rfl X'
    exact ⟨t2, go.trans a1, b1⟩
/-- the throw of a callee goes on to the caller -/
theorem cq_thru {mc1 ms1 : Nat} {ls : Array Slot} {rest : List Value} {XP1 : String → cq_M → Prop} (F : cq_F p s m args meth c D cA Bs nL cc own Ts) (hex : ∀ x ∈ c.exceptionTable.toList, False) (hc : cells + mc1 ≤ mc ∧ slots + ms1 ≤ ms) (hx : ∀ (E : String) (M1 : cq_M), XP1 E M1 → XP E M1) : ∀ (E : String) (M1 : cq_M), XP1 E M1 → ∀ (H1 : Heap) (locs1 : List Loc) (q9 : Addr) (ce : Cell), cq_H D cA X Bs M1 H1 → va_S (cq_A Bs) s.heap H1 locs1 → H1[q9]? = some ce → ce.vm = .none → s.vm.findClass E = some ce.cls → vx_W p l e R s m args below meth c H1 locs1 (cells + mc1) (slots + ms1) (vx_MQ below (cq_Q D cA X Bs Post) (cq_XC D cA X Bs XP) args s mc ms (cq_A Bs)) (F0 m pc ls rest) q9 := by
  intro E M1 h H1 locs1 q9 ce hH1 hS1 hce hcv hcl
  exact vx_out (fun x h => (hex x h).elim) F.2.2.1 hce hcv hcl (fun t ht hA => ⟨⟨M1, hx E M1 h, by rw [ht]; exact hH1⟩, hS1.F ht⟩) hS1.2.2 hc.1 hc.2
theorem cq_xcallV (F : cq_F p s m args meth c D cA Bs nL cc own Ts) (hex : ∀ x ∈ c.exceptionTable.toList, False) {y : MethodName} {bytes : ByteArray} {maxL mc1 ms1 n index : Nat} {ret : Option FieldType} {ws : List Cond} {rm : Room} {Post1 : Option Value → cq_M → Prop} {XP1 : String → cq_M → Prop} {C : String} {b ci : Nat} {q9 : vw_C} {As : List Value} (hM : cq_T l y ws rm D cA X Bs (.ref b :: As) M Post1 XP1 mc1 ms1) (cw : CallW R s args own C index y bytes maxL ret ws rm mc1 ms1 n) (hb : X.1 b = ci) (h9 : 0 < ci ∧ ci < 10) (hc : vwCl[ci]? = some q9) (hC : q9.1 = C) (hn : As.length = n) (hW : (st.map fun v => v.category).sum ≤ 8) (hdg : decode cc pc = .ok (.invokevirtual index, 3)) (hf : cells + mc1 ≤ R.cells ∧ slots + ms1 ≤ R.slots) (hcm : cells + mc1 ≤ mc ∧ slots + ms1 ≤ ms) (hx : ∀ (E : String) (M1 : cq_M), XP1 E M1 → XP E M1)
    (k : ∀ (rv : Option Value) (M1 : cq_M), Post1 rv M1 → cq_V p l e R s m args below meth c D cA X Bs nL (cells + mc1) (slots + ms1) (vx_MQ below (cq_Q D cA X Bs Post) (cq_XC D cA X Bs XP) args s mc ms (cq_A Bs)) (pc + 3) L (rv.toList ++ st) M1) : cq_V p l e R s m args below meth c D cA X Bs nL cells slots (vx_MQ below (cq_Q D cA X Bs Post) (cq_XC D cA X Bs XP) args s mc ms (cq_A Bs)) pc L (As.reverse ++ .ref b :: st) M := fun H locs ls hH hS hL => by
  subst hC
  exact cq_back9 hS hL (vx_runV (As := As) (rest := st) F.1 hM cw ⟨cq_blind, va_recv F.2.1 (cq_one (hH.1 b ci hb h9.1 h9.2)) hc (q0 := 0) rfl, fun U hU hW2 => ⟨rfl, by rw [hU]; exact hH, va_K.moved hW2.alike F.2.1, by rw [hU]; exact Nat.le_trans F.2.2.2.1 hS.1, F.2.2.2.2.go hW2 (fun a h1 h2 => by rw [hU]; exact hS.2.1 a h1 h2)⟩⟩ rfl hn hL.size rfl (lv_room hW) hdg hf) (cq_thru F hex hcm hx) k
theorem cq_xcallS (F : cq_F p s m args meth c D cA Bs nL cc own Ts) (hex : ∀ x ∈ c.exceptionTable.toList, False) {y : MethodName} {bytes : ByteArray} {maxL mc1 ms1 n index : Nat} {ret : Option FieldType} {ws : List Cond} {rm : Room} {Post1 : Option Value → cq_M → Prop} {XP1 : String → cq_M → Prop} {As : List Value} (hM : cq_T l y ws rm D cA X Bs As M Post1 XP1 mc1 ms1) (cw : CallB R s args own index y bytes maxL ret ws rm mc1 ms1 n ∧ (Cond.static y).before args s = true) (hn : As.length = n) (hW : (st.map fun v => v.category).sum ≤ 8) (hdg : decode cc pc = .ok (.invokestatic index, 3)) (hf : cells + mc1 ≤ R.cells ∧ slots + ms1 ≤ R.slots) (hcm : cells + mc1 ≤ mc ∧ slots + ms1 ≤ ms) (hx : ∀ (E : String) (M1 : cq_M), XP1 E M1 → XP E M1)
    (k : ∀ (rv : Option Value) (M1 : cq_M), Post1 rv M1 → cq_V p l e R s m args below meth c D cA X Bs nL (cells + mc1) (slots + ms1) (vx_MQ below (cq_Q D cA X Bs Post) (cq_XC D cA X Bs XP) args s mc ms (cq_A Bs)) (pc + 3) L (rv.toList ++ st) M1) : cq_V p l e R s m args below meth c D cA X Bs nL cells slots (vx_MQ below (cq_Q D cA X Bs Post) (cq_XC D cA X Bs XP) args s mc ms (cq_A Bs)) pc L (As.reverse ++ st) M := fun H locs ls hH hS hL => by
  exact cq_back9 hS hL (vx_runS (As := As) (rest := st) F.1 hM cw ⟨cq_blind, fun U hU hW2 => ⟨rfl, by rw [hU]; exact hH, va_K.moved hW2.alike F.2.1, by rw [hU]; exact Nat.le_trans F.2.2.2.1 hS.1, F.2.2.2.2.go hW2 (fun a h1 h2 => by rw [hU]; exact hS.2.1 a h1 h2)⟩⟩ rfl hn hL.size rfl (lv_room hW) hdg hf) (cq_thru F hex hcm hx) k
end CQT
