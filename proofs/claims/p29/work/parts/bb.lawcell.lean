/-! cell: the script is read -/
section CQL
variable {p : Program} {l : Launch} {e : Env} {R : Room} {s : State} {m : MethodId} {args : Array Value} {below : List Frame} {meth : Method} {c : Code} {D : va_G} {cA : Nat → ClassId} {X : cq_X} {Bs nL cells slots : Nat} {Q : State → Prop} {cc : ByteArray} {own : String} {Ts : List Cond} {pc : Nat} {L : List (Nat × Value)} {st : List Value} {M : cq_M}
/-- the script: its length, a cell of it -/
theorem cq_slen (F : cq_F p s m args meth c D cA Bs nL cc own Ts) {b0 N0 : Nat} {xs : Nat → Int32} (hX : va_X b0 N0 xs s s.heap) (hb : b0 < s.heap.size ∧ b0 < Bs) (hdg : decode cc pc = .ok (.arraylength, 1)) (k : cq_V p l e R s m args below meth c D cA X Bs nL cells slots Q (pc + 1) L (.int (nI N0) :: st) M) : cq_V p l e R s m args below meth c D cA X Bs nL cells slots Q pc L (.ref b0 :: st) M := fun H locs ls hH hS hL => va_slen F.1.1 F.1.2.1 hX hb.1 (fun z => by have z2 : Bs ≤ b0 := z; omega) hS hdg (k H locs ls hH hS hL)
theorem cq_sld (F : cq_F p s m args meth c D cA Bs nL cc own Ts) {b0 N0 j : Nat} {xs : Nat → Int32} {i : Int32} (hX : va_X b0 N0 xs s s.heap) (hb : b0 < s.heap.size ∧ b0 < Bs) (hi : i = nI j) (hj : j < N0 ∧ N0 < 2147483648) (hdg : decode cc pc = .ok (.iaload, 1)) (k : cq_V p l e R s m args below meth c D cA X Bs nL cells slots Q (pc + 1) L (.int (xs j) :: st) M) : cq_V p l e R s m args below meth c D cA X Bs nL cells slots Q pc L (.int i :: .ref b0 :: st) M := fun H locs ls hH hS hL => by
  subst hi
  have e9 : (nI j).toNatClampNeg = j := nI_clamp (Nat.lt_trans hj.1 hj.2)
  refine va_sld F.1.1 F.1.2.1 hX hb.1 (fun z => by have z2 : Bs ≤ b0 := z; omega) hS (vp_in_nI hj.1 hj.2) hdg ?_
  rw [e9]
  exact k H locs ls hH hS hL
end CQL
/-- cell's start: the world, and the script -/
def cc_P (D : va_G) (cA : Nat → ClassId) (X : cq_X) (Bs b0 N0 : Nat) (xs : Nat → Int32) (i : Int32) (M : cq_M) : Array Value → State → Prop := va_Pc [.ref b0, .int i] (fun U => (cq_H D cA X Bs M U.heap ∧ va_K D vwCl (cq_tys cA) U ∧ Bs ≤ U.heap.size ∧ cq_E D Bs U) ∧ va_X b0 N0 xs U U.heap ∧ b0 < Bs)
theorem cc_blind {D : va_G} {cA : Nat → ClassId} {X : cq_X} {Bs b0 N0 : Nat} {xs : Nat → Int32} {i : Int32} {M : cq_M} : FrameBlind (cc_P D cA X Bs b0 N0 xs i M) := fun a U g mk q => by
  obtain ⟨q0, q1, q2, q3⟩ := q
  exact ⟨q0, (cq_blind (av := [.ref b0, .int i]) a U g mk ⟨q0, q1⟩).2, va_X.moved (u := U) (U := U.calling g mk a) (Vm.Alike.refl U.vm) q2, q3⟩
abbrev rmL_cell : Room := ({ frames := 0, cells := 0, slots := 0, locals := 0 })
set_option maxRecDepth 100000 in
set_option maxHeartbeats 4000000 in
theorem kL_cell (l : Launch) (D : va_G) (cA : Nat → ClassId) (X : cq_X) (Bs b0 N0 j : Nat) (xs : Nat → Int32) (M : cq_M) (hj : j < 1000000) (hN : N0 < 1000000) : Met l yL_cell wsL_cell rmL_cell (cc_P D cA X Bs b0 N0 xs (nI j) M) (cq_Q D cA X Bs (cq_PI (fun _ M1 => M1 = M))) 0 0 (cq_A Bs) := by
  refine Met.ofW (cc := cL_cell) (maxL := 2) (ret := (some .int)) (by decide) rfl ?_
  intro p e s m args below meth c s₁ B hml hv
  obtain ⟨rfl, ⟨hH, hK, hB, hE⟩, hX, hb⟩ := hv
  have hts := atoms_spec (ws := wsL_cell) B.pre
  have F : cq_F p s m ([.ref b0, .int (nI j)] : List Value).toArray meth c D cA Bs 2 cL_cell RL wsL_cell := ⟨⟨B.exec, B.bytes, hml, findClass_of_methodNamed B.named, hts⟩, hK, B.notSynchronized, hB, hE⟩
  have hr := B.returns
  have hb2 : b0 < s.heap.size ∧ b0 < Bs := ⟨Nat.lt_of_lt_of_le hb hB, hb⟩
  have h : cq_V p l e rmL_cell s m ([.ref b0, .int (nI j)] : List Value).toArray below meth c D cA X Bs 2 0 0 (MQ below (cq_Q D cA X Bs (cq_PI (fun _ M1 => M1 = M))) ([.ref b0, .int (nI j)] : List Value).toArray s 0 0 (cq_A Bs)) 0 [(0, .ref b0), (1, .int (nI j))] [] M := by
    refine cq_iload_n F (i := 1) dL_cell_0 rfl rfl ?_
    refine cq_aload_n F (i := 0) dL_cell_1 rfl rfl ?_
    refine cq_slen F hX hb2 dL_cell_2 ?_
    refine cq_icmp_ge F (tgt := 12) dL_cell_3 (by decide) (fun _ => ?_) (fun hE9 => ?_)
    · refine cq_ldc F (F.1.2.2.2.2 _ (List.mem_of_getElem? (l := wsL_cell) (i := 1) (a := .constant RL 7 (1291169091)) (by decide +kernel))) dL_cell_12 ?_
      refine cq_iload_n F (i := 1) dL_cell_14 rfl rfl ?_
      refine cq_iconst F (v := 1) dL_cell_15 rfl ?_
      refine cq_iadd F dL_cell_16 ?_
      refine cq_imul F dL_cell_17 ?_
      exact cq_iret F hr (by decide) (by decide) dL_cell_18 ⟨_, rfl, rfl⟩
    · have hlt : j < N0 := by
        rcases Nat.lt_or_ge j N0 with h9 | h9
        · exact h9
        · exact absurd (nI_le h9 (by omega)) hE9
      refine cq_aload_n F (i := 0) dL_cell_6 rfl rfl ?_
      refine cq_iload_n F (i := 1) dL_cell_7 rfl rfl ?_
      refine cq_sld F hX hb2 (j := j) rfl ⟨hlt, by omega⟩ dL_cell_8 ?_
      refine cq_goto F (tgt := 18) dL_cell_9 (by decide) ?_
      exact cq_iret F hr (by decide) (by decide) dL_cell_18 ⟨_, rfl, rfl⟩
  rw [lg_entry_eq]
  have hl := lv_entry ([.ref b0, .int (nI j)] : List Value) (n := 2) (Nat.le_of_ble_eq_true rfl)
  exact h s.heap [] _ hH va_S.rf (cq_L.of hl rfl)
theorem hdVL_cell : yL_cell.cls = RL ∧ yL_cell.cls ≠ "java/lang/invoke/MethodHandle" ∧ yL_cell.cls ≠ "java/lang/invoke/VarHandle" ∧ (parseMethodDescriptor yL_cell.desc).map (fun d => d.parameters.length) = some 2 := by decide +kernel
section CQL
variable {p : Program} {l : Launch} {e : Env} {R : Room} {s : State} {m : MethodId} {args : Array Value} {below : List Frame} {meth : Method} {c : Code} {D : va_G} {cA : Nat → ClassId} {X : cq_X} {Bs nL cells slots : Nat} {Q : State → Prop} {cc : ByteArray} {own : String} {Ts : List Cond} {pc : Nat} {L : List (Nat × Value)} {st : List Value} {M : cq_M}
/-- a call of cell from the law -/
theorem cq_callC (F : cq_F p s m args meth c D cA Bs nL cc own Ts) {b0 N0 j index : Nat} {xs : Nat → Int32} (hX : va_X b0 N0 xs s s.heap) (hb : b0 < s.heap.size ∧ b0 < Bs) (hj : j < 1000000) (hN : N0 < 1000000) (cw : CallB R s args own index yL_cell cL_cell 2 (some .int) wsL_cell rmL_cell 0 0 2 ∧ (Cond.static yL_cell).before args s = true) (hW : (st.map fun v => v.category).sum ≤ 8) (hdg : decode cc pc = .ok (.invokestatic index, 3)) (hf : cells ≤ R.cells ∧ slots ≤ R.slots) (k : ∀ r : Int32, cq_V p l e R s m args below meth c D cA X Bs nL cells slots Q (pc + 3) L (.int r :: st) M) : cq_V p l e R s m args below meth c D cA X Bs nL cells slots Q pc L (.int (nI j) :: .ref b0 :: st) M := fun H locs ls hH hS hL => by
  refine cq_back (mc := 0) (ms := 0) F hS hL (va_runS (As := [.ref b0, .int (nI j)]) (rest := st) F.1 (kL_cell l D cA X Bs b0 N0 j xs M hj hN) cw ⟨cc_blind, fun U hU hW2 => ⟨rfl, ⟨by rw [hU]; exact hH, va_K.moved hW2.alike F.2.1, by rw [hU]; exact Nat.le_trans F.2.2.2.1 hS.1, F.2.2.2.2.go hW2 (fun a h1 h2 => by rw [hU]; exact hS.2.1 a h1 h2)⟩, ?_, hb.2⟩⟩ rfl rfl hL.size rfl (lv_room hW) hdg hf) (fun rv M1 hp => ?_)
  · rw [hU]
    exact (hX.kept (hS.2.1 b0 hb.1 (fun z => by have z2 : Bs ≤ b0 := z; omega))).moved hW2.alike
  · obtain ⟨r, rfl, rfl⟩ := hp
    exact k r
end CQL
