/-! the law's wrappers: rows -/
/-- what a wrapper tells: the number of what was thrown (0: nothing), the answer at ol, the state -/
def lw_w (q : op_T) (r : Int32) (M M1 : cq_M) (b ol : Nat) : Prop := r = nI q.1 ∧ (q.1 = 0 → M1 ol 0 = q.2.1) ∧ ck M1 b q.2.2 ∧ ∀ x, (x < b ∨ b + 249 ≤ x) → x ≠ ol → M1 x = M x
/-- thrown: the state as it was -/
def lw_x (q : op_T) (names : List String) (E : String) (M M1 : cq_M) (b : Nat) : Prop := ck M1 b q.2.2 ∧ cr_fr M M1 b 249 ∧ ∃ k, q.1 = k + 1 ∧ names[k]? = some E
theorem lw_x.of {q : op_T} {S : as_T} {names : List String} {E : String} {M M1 : cq_M} {b : Nat} (h : ck M b S) (hx : cx q S names E M M1) : lw_x q names E M M1 b := by
  obtain ⟨rfl, h2, h3⟩ := hx
  exact ⟨by rw [h2]; exact h, fun _ _ => rfl, h3⟩
theorem ck.far {M M1 : cq_M} {b B : Nat} {S : as_T} (h : ck M b S) (hk : as_ok S B) (hf : ∀ x, b ≤ x → x < b + 249 → M1 x = M x) : ck M1 b S :=
  h.fr hk (fun x h1 h2 _ _ _ => hf x h1 h2) (by rw [hf _ (by omega) (by omega)]) (h.2.2.1.1.fr (fun x h1 h2 => hf x (by omega) (by omega)))
theorem lw_w.x {q : op_T} {names : List String} {E : String} {M M1 : cq_M} {b ol k : Nat} (h : lw_x q names E M M1 b) (hk : q.1 = k + 1) {r : Int32} (hr : r = nI (k + 1)) : lw_w q r M M1 b ol := ⟨by rw [hr, hk], fun z => absurd z (by omega), h.1, fun x hx _ => h.2.1 x hx⟩
theorem cq_metH {l : Launch} {y : MethodName} {ws ws' : List Cond} {rm : Room} {D : va_G} {cA : Nat → ClassId} {X : cq_X} {Bs : Nat} {av : List Value} {M : cq_M} {Post : Option Value → cq_M → Prop} {XP : String → cq_M → Prop} {mc ms : Nat} {cc : ByteArray} {maxL : Nat} {ret : Option FieldType} {hh : List (Nat × Nat × Nat × Nat)} (hy : plainName y.cls = true) (hw : ws = Cond.codeWith y cc maxL ret hh :: ws') (hn : (lg_sl av).length ≤ maxL) (L : List (Nat × Value)) (hL : lv_args 0 av = L) (hc : L.all (fun q => Nat.beq q.2.category 1) = true)
    (body : ∀ (p : Program) (e : Env) (s : State) (m : MethodId) (below : List Frame) (meth : Method) (c : Code), cq_F p s m av.toArray meth c D cA Bs maxL cc y.cls ws → meth.sig.returnType = ret → c.exceptionTable.toList = tableOf hh → cq_V p l e rm s m av.toArray below meth c D cA X Bs maxL 0 0 (vx_MQ below (cq_Q D cA X Bs Post) (cq_XC D cA X Bs XP) av.toArray s mc ms (cq_A Bs)) 0 L [] M) : cq_T l y ws rm D cA X Bs av M Post XP mc ms := by
  refine vx_ofWH (cc := cc) (maxL := maxL) (ret := ret) (hh := hh) hy hw ?_
  intro p e s m args below meth c s₁ B hml hv
  obtain ⟨rfl, hH, hK, hB, hE⟩ := hv
  have hts := atoms_spec (ws := ws) B.pre
  have h := body p e s m below meth c ⟨⟨B.exec, B.bytes, hml, findClass_of_methodNamed B.named, hts⟩, hK, B.notSynchronized, hB, hE⟩ B.returns (vx_table (x := y) B (hts _ (by rw [hw]; exact List.mem_cons_self)))
  rw [lg_entry_eq]
  have hl := lv_entry av (n := maxL) hn
  rw [hL] at hl
  exact h s.heap [] _ hH va_S.rf (cq_L.of hl hc)
section CQW
variable {p : Program} {l : Launch} {e : Env} {R : Room} {s : State} {m : MethodId} {args : Array Value} {below : List Frame} {meth : Method} {c : Code} {D : va_G} {cA : Nat → ClassId} {X : cq_X} {Bs nL cells slots : Nat} {Q : State → Prop} {cc : ByteArray} {own : String} {Ts : List Cond} {pc : Nat} {L : List (Nat × Value)} {st : List Value} {M : cq_M}
theorem cq_lastore (F : cq_F p s m args meth c D cA Bs nL cc own Ts) {a n : Nat} {x : Int32} (ha : X.1 a = 17) (hn : X.2.1 a = n) (h1 : 0 < n) (hdg : decode cc pc = .ok (.lastore, 1)) (k : ∀ M1 : cq_M, M1 = cq_up M a 0 x → cq_V p l e R s m args below meth c D cA X Bs nL cells slots Q (pc + 1) L st M1) : cq_V p l e R s m args below meth c D cA X Bs nL cells slots Q pc L (.long x.toInt64 :: .int 0 :: .ref a :: st) M := fun H locs ls hH hS hL => by
  subst hn
  have hin : vp_in (0 : Int32) (X.2.1 a) := by
    intro z
    rcases z with z | z
    · exact absurd z (by decide)
    · have : (0 : Int32).toNatClampNeg = 0 := by decide
      omega
  refine W.last F.1.1 F.1.2.1 (hH.2.1 a 7 ha) ((F.2.1.2 7 _ rfl).1 (X.2.1 a) (fun j => .long (M a j).toInt64)) (fun q => by cases q) (by show ¬ ((0 : Int32) < 0 ∨ (arrV _ _ _).slots.size ≤ _); rw [arrV_size]; exact hin) rfl rfl hdg fun H1 e1 e2 e3 => ?_
  refine k _ rfl H1 _ ls ⟨fun b cj hb h0 h10 => ?_, fun b t hb => ?_, hH.2.2⟩ (hS.put e2 e3 (hH.2.2 a (by rw [ha]; omega))) hL
  · have hba : b ≠ a := fun z => by subst z; omega
    rw [cq_o_ne hba]
    exact (hH.1 b cj hb h0 h10).kept (e3 b hba)
  · by_cases hba : b = a
    · subst hba
      obtain rfl : t = 7 := by omega
      show H1[b]? = some (vp_cell (cA 7) (X.2.1 b, .inr (.inl (fun j => (cq_up M b 0 x b j).toInt64))))
      rw [e1, cq_up_self]
      show some ((vp_cell (cA 7) (X.2.1 b, .inr (.inl (fun j => (M b j).toInt64)))).setSlot _ _) = _
      rw [vp_cell_l, vp_cell_l, arrV_store]
      congr 2
      funext q
      by_cases hq : q = 0
      · subst hq
        simp [updV, upd]
        try rfl
      · have : (0 : Int32).toNatClampNeg = 0 := by decide
        simp [updV, upd, hq, this]
    · rw [cq_up_row hba]
      exact (hH.2.1 b t hb).kept (e3 b hba)
/-- a call in a try: what is thrown is caught by a row of the table -/
theorem cq_catchV (F : cq_F p s m args meth c D cA Bs nL cc own Ts) {y : MethodName} {bytes : ByteArray} {maxL mc1 ms1 n index : Nat} {ret : Option FieldType} {ws : List Cond} {rm : Room} {Post1 : Option Value → cq_M → Prop} {XP1 : String → cq_M → Prop} {C : String} {b ci : Nat} {q9 : vw_C} {As : List Value} (hM : cq_T l y ws rm D cA X Bs (.ref b :: As) M Post1 XP1 mc1 ms1) (cw : CallW R s args own C index y bytes maxL ret ws rm mc1 ms1 n) (hb : X.1 b = ci) (h9 : 0 < ci ∧ ci < 10) (hc : vwCl[ci]? = some q9) (hC : q9.1 = C) (hn : As.length = n) (hW : (st.map fun v => v.category).sum ≤ 8) (hdg : decode cc pc = .ok (.invokevirtual index, 3)) (hf : cells + mc1 ≤ R.cells ∧ slots + ms1 ≤ R.slots)
    (kx : ∀ (E : String) (M1 : cq_M), XP1 E M1 → ∃ (pre suf : List ExceptionTableEntry) (x9 : ExceptionTableEntry) (nm : String), c.exceptionTable.toList = pre ++ x9 :: suf ∧ (∀ z ∈ pre, z.catchType ≠ 0 ∧ ∃ nm1, (Cond.classLink own z.catchType nm1).before args s = true ∧ (E, nm1) ∈ cq_nk) ∧ covers x9 pc = true ∧ x9.catchType ≠ 0 ∧ (Cond.classLink own x9.catchType nm).before args s = true ∧ (E, nm) ∈ cq_kw ∧ ∀ q : Nat, cq_V p l e R s m args below meth c D cA X Bs nL (cells + mc1) (slots + ms1) Q x9.handlerPc L [.ref q] M1)
    (k : ∀ (rv : Option Value) (M1 : cq_M), Post1 rv M1 → cq_V p l e R s m args below meth c D cA X Bs nL (cells + mc1) (slots + ms1) Q (pc + 3) L (rv.toList ++ st) M1) : cq_V p l e R s m args below meth c D cA X Bs nL cells slots Q pc L (As.reverse ++ .ref b :: st) M := fun H locs ls hH hS hL => by
  subst hC
  refine cq_back9 hS hL (vx_runV (As := As) (rest := st) F.1 hM cw ⟨cq_blind, va_recv F.2.1 (cq_one (hH.1 b ci hb h9.1 h9.2)) hc (q0 := 0) rfl, fun U hU hW2 => ⟨rfl, by rw [hU]; exact hH, va_K.moved hW2.alike F.2.1, by rw [hU]; exact Nat.le_trans F.2.2.2.1 hS.1, F.2.2.2.2.go hW2 (fun a h1 h2 => by rw [hU]; exact hS.2.1 a h1 h2)⟩⟩ rfl hn hL.size rfl (lv_room hW) hdg hf) (fun E M1 hx H1 locs1 q ce hH1 hS1 hce hcv hcl => ?_) k
  obtain ⟨pre, suf, x9, nm, g1, g2, g3, g4, g5, g6, g7⟩ := kx E M1 hx
  exact vx_catch F.1.2.2.2.1 pre x9 suf g1 (fun z hz => .inr (by
    obtain ⟨h1, nm1, h2, h3⟩ := g2 z hz
    exact ⟨h1, nm1, h2, F.2.2.2.2.nk h3⟩)) g3 g4 g5 (cq_now F.2.2.2.2 (.castable E nm) (List.mem_append.mpr (.inr (List.mem_map.mpr ⟨(E, nm), g6, rfl⟩)))) hce hcv hcl (g7 q H1 locs1 ls hH1 hS1 hL)
end CQW
