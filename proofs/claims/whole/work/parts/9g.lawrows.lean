/-! the law's own walk: rows -/
theorem lg_cmp_s (x : Int64) : lg_cmp x x = 0 := by
  unfold lg_cmp
  simp
section CQL
variable {p : Program} {l : Launch} {e : Env} {R : Room} {s : State} {m : MethodId} {args : Array Value} {below : List Frame} {meth : Method} {c : Code} {D : va_G} {cA : Nat → ClassId} {X : cq_X} {Bs nL cells slots : Nat} {Q : State → Prop} {cc : ByteArray} {own : String} {Ts : List Cond} {pc : Nat} {L : List (Nat × Value)} {st : List Value} {M : cq_M}
/-- the script: its length, a cell of it -/
theorem cq_slen (F : cq_F p s m args meth c D cA Bs nL cc own Ts) {b0 N0 : Nat} {xs : Nat → Int32} (hX : va_X b0 N0 xs s s.heap) (hb : b0 < s.heap.size ∧ b0 < Bs) (hdg : decode cc pc = .ok (.arraylength, 1)) (k : cq_V p l e R s m args below meth c D cA X Bs nL cells slots Q (pc + 1) L (.int (nI N0) :: st) M) : cq_V p l e R s m args below meth c D cA X Bs nL cells slots Q pc L (.ref b0 :: st) M := fun H locs ls hH hS hL => va_slen F.1.1 F.1.2.1 hX hb.1 (fun z => by have z2 : Bs ≤ b0 := z; omega) hS hdg (k H locs ls hH hS hL)
theorem cq_sld (F : cq_F p s m args meth c D cA Bs nL cc own Ts) {b0 N0 j : Nat} {xs : Nat → Int32} {i : Int32} (hX : va_X b0 N0 xs s s.heap) (hb : b0 < s.heap.size ∧ b0 < Bs) (hi : i = nI j) (hj : j < N0 ∧ N0 < 2147483648) (hdg : decode cc pc = .ok (.iaload, 1)) (k : cq_V p l e R s m args below meth c D cA X Bs nL cells slots Q (pc + 1) L (.int (xs j) :: st) M) : cq_V p l e R s m args below meth c D cA X Bs nL cells slots Q pc L (.int i :: .ref b0 :: st) M := fun H locs ls hH hS hL => by
  subst hi
  have e9 : (nI j).toNatClampNeg = j := nI_clamp (Nat.lt_trans hj.1 hj.2)
  refine va_sld F.1.1 F.1.2.1 hX hb.1 (fun z => by have z2 : Bs ≤ b0 := z; omega) hS (vp_in_nI hj.1 hj.2) hdg ?_
  rw [e9]
  exact k H locs ls hH hS hL
theorem cq_laload (F : cq_F p s m args meth c D cA Bs nL cc own Ts) {a n : Nat} (ha : X.1 a = 17) (hn : X.2.1 a = n) (h1 : 0 < n) (hdg : decode cc pc = .ok (.laload, 1)) (k : cq_V p l e R s m args below meth c D cA X Bs nL cells slots Q (pc + 1) L (.long (M a 0).toInt64 :: st) M) : cq_V p l e R s m args below meth c D cA X Bs nL cells slots Q pc L (.int 0 :: .ref a :: st) M := fun H locs ls hH hS hL => by
  subst hn
  have hin : vp_in (0 : Int32) (X.2.1 a) := by
    intro z
    rcases z with z | z
    · exact absurd z (by decide)
    · have : (0 : Int32).toNatClampNeg = 0 := by decide
      omega
  exact va_lald F.1.1 F.1.2.1 F.2.1 (cq_one (hH.2.1 a 7 ha)) 0 7 rfl rfl hin hdg (k H locs ls hH hS hL)
theorem cq_lcmp (F : cq_F p s m args meth c D cA Bs nL cc own Ts) {x y : Int64} (hdg : decode cc pc = .ok (.lcmp, 1)) (k : cq_V p l e R s m args below meth c D cA X Bs nL cells slots Q (pc + 1) L (.int (lg_cmp x y) :: st) M) : cq_V p l e R s m args below meth c D cA X Bs nL cells slots Q pc L (.long y :: .long x :: st) M := fun H locs ls hH hS hL => W.lcmp F.1.1 F.1.2.1 hdg (k H locs ls hH hS hL)
/-- a call of a wrapper: it throws nothing -/
theorem cq_callX (F : cq_F p s m args meth c D cA Bs nL cc own Ts) {y : MethodName} {bytes : ByteArray} {maxL mc1 ms1 n index : Nat} {ret : Option FieldType} {hh : List (Nat × Nat × Nat × Nat)} {ws : List Cond} {rm : Room} {Post1 : Option Value → cq_M → Prop} {As : List Value} (hM : cq_T l y ws rm D cA X Bs As M Post1 (fun _ _ => False) mc1 ms1) (cw : vx_CSW R s args own index y bytes maxL ret hh ws rm mc1 ms1 n) (hn : As.length = n) (hW : (st.map fun v => v.category).sum ≤ 8) (hdg : decode cc pc = .ok (.invokestatic index, 3)) (hf : cells + mc1 ≤ R.cells ∧ slots + ms1 ≤ R.slots)
    (k : ∀ (rv : Option Value) (M1 : cq_M), Post1 rv M1 → cq_V p l e R s m args below meth c D cA X Bs nL (cells + mc1) (slots + ms1) Q (pc + 3) L (rv.toList ++ st) M1) : cq_V p l e R s m args below meth c D cA X Bs nL cells slots Q pc L (As.reverse ++ st) M := fun H locs ls hH hS hL => by
  exact cq_back9 hS hL (vx_runSX (As := As) (rest := st) F.1 hM cw ⟨cq_blind, fun U hU hW2 => ⟨rfl, by rw [hU]; exact hH, va_K.moved hW2.alike F.2.1, by rw [hU]; exact Nat.le_trans F.2.2.2.1 hS.1, F.2.2.2.2.go hW2 (fun a h1 h2 => by rw [hU]; exact hS.2.1 a h1 h2)⟩⟩ rfl hn hL.size rfl (lv_room hW) hdg hf) (fun E M1 hx => hx.elim) k
end CQL
