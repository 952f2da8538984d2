/-! the law's walk: stretches that come again -/
theorem w9_31 (x : Int32) : ∃ k : Nat, k < 32 ∧ (x &&& 31) = nI k := by
  refine ⟨(x &&& 31).toBitVec.toNat, ?_, ?_⟩
  · have e9 : (x &&& 31).toBitVec = x.toBitVec &&& 31#32 := by simp
    rw [e9, BitVec.toNat_and]
    exact Nat.lt_of_le_of_lt Nat.and_le_right (by decide)
  · apply Int32.toBitVec_inj.mp
    show _ = BitVec.ofNat 32 _
    simp
def w9_b (x : Int32) : Nat := if x = 0 then 0 else 1
theorem w9_b1 (x : Int32) : w9_b x ≤ 1 := by
  unfold w9_b
  split <;> omega
theorem w9_ite {P : Prop} {d : Decidable P} {x y : op_T} (hx : x.1 ≤ 3) (hy : y.1 ≤ 3) : (@ite op_T P d x y).1 ≤ 3 := by
  split
  · exact hx
  · exact hy
section CQZ
variable {p : Program} {l : Launch} {e : Env} {R : Room} {s : State} {m : MethodId} {args : Array Value} {below : List Frame} {meth : Method} {c : Code} {D : va_G} {cA : Nat → ClassId} {X : cq_X} {Bs nL cells slots : Nat} {Q : State → Prop} {cc : ByteArray} {own : String} {Ts : List Cond} {pc : Nat} {L : List (Nat × Value)} {st : List Value} {M : cq_M}
theorem w9_cell (F : cq_F p s m args meth c D cA Bs nL cc own Ts) {b0 N0 n j : Nat} {xs : Nat → Int32} {cj : Int} (hX : va_X b0 N0 xs s s.heap) (hb : b0 < s.heap.size ∧ b0 < Bs) (h0 : L.lookup 0 = some (.ref b0)) (h4 : L.lookup 4 = some (.int (nI (4 * n)))) (hj : 4 * n + j < N0 ∧ N0 < 2147483648) (ej : Int32.ofInt cj = nI j) (d0 : decode cc pc = .ok (.aload_n 0, 1)) (d1 : decode cc (pc + 1) = .ok (.iload 4, 2)) (d3 : decode cc (pc + 3) = .ok (.iconst cj, 1)) (d4 : decode cc (pc + 4) = .ok (.iadd, 1)) (d5 : decode cc (pc + 5) = .ok (.iaload, 1)) (k : cq_V p l e R s m args below meth c D cA X Bs nL cells slots Q (pc + 6) L (.int (xs (4 * n + j)) :: st) M) : cq_V p l e R s m args below meth c D cA X Bs nL cells slots Q pc L st M := by
  refine cq_aload_n F (i := 0) d0 rfl h0 ?_
  refine cq_iload F d1 h4 ?_
  refine cq_iconst F (v := nI j) d3 ej ?_
  refine cq_iadd F d4 ?_
  exact cq_sld F hX hb (i := nI (4 * n) + nI j) (j := 4 * n + j) (nI_add _ _) hj d5 k
theorem w9_bool (F : cq_F p s m args meth c D cA Bs nL cc own Ts) {x : Int32} (d0 : decode cc pc = .ok (.ifCond .eq 7, 3)) (d1 : decode cc (pc + 3) = .ok (.iconst 1, 1)) (d2 : decode cc (pc + 4) = .ok (.goto 4, 3)) (d3 : decode cc (pc + 7) = .ok (.iconst 0, 1)) (k : cq_V p l e R s m args below meth c D cA X Bs nL cells slots Q (pc + 8) L (.int (nI (w9_b x)) :: st) M) : cq_V p l e R s m args below meth c D cA X Bs nL cells slots Q pc L (.int x :: st) M := by
  refine cq_if_eq F (tgt := pc + 7) d0 (by omega) (fun hx => ?_) (fun hx => ?_)
  · refine cq_iconst F (v := 0) d3 rfl ?_
    unfold w9_b at k
    rw [if_pos hx] at k
    exact k
  · refine cq_iconst F (v := 1) d1 rfl ?_
    refine cq_goto F (tgt := pc + 8) d2 (by omega) ?_
    unfold w9_b at k
    rw [if_neg hx] at k
    exact k
/-- what both sides said is compared -/
theorem w9_tail (F : cq_F p s m args meth c D cA Bs nL cL_law RL wsL_law) {q : op_T} {r r2 : Int32} {o ol tg : Nat} {off : Int} (ho : cq_isModel X o) (hk9 : X.1 ol = 17) (hn9 : X.2.1 ol = 1) (h2 : L.lookup 2 = some (.ref o)) (h3 : L.lookup 3 = some (.ref ol)) (h5 : L.lookup 5 = some (.int r)) (h6 : L.lookup 6 = some (.int r2)) (hq3 : q.1 ≤ 3) (hr : r = nI q.1) (ha : q.1 = 0 → M ol 0 = q.2.1) (hth : M o 6 = nI q.1) (hr2 : q.1 = 0 → r2 = q.2.1)
    (e0 : decode cL_law pc = .ok (.aload_n 2, 1)) (e1 : decode cL_law (pc + 1) = .ok (.invokevirtual 97, 3)) (e4 : decode cL_law (pc + 4) = .ok (.iload 5, 2)) (e6 : decode cL_law (pc + 6) = .ok (.if_icmp .eq 5, 3)) (e11 : decode cL_law (pc + 11) = .ok (.iload 5, 2)) (e13 : decode cL_law (pc + 13) = .ok (.ifCond .ne 15, 3)) (e16 : decode cL_law (pc + 16) = .ok (.aload_n 3, 1)) (e17 : decode cL_law (pc + 17) = .ok (.iconst 0, 1)) (e18 : decode cL_law (pc + 18) = .ok (.laload, 1)) (e19 : decode cL_law (pc + 19) = .ok (.iload 6, 2)) (e21 : decode cL_law (pc + 21) = .ok (.i2l, 1)) (e22 : decode cL_law (pc + 22) = .ok (.lcmp, 1)) (e23 : decode cL_law (pc + 23) = .ok (.ifCond .eq 5, 3)) (e28 : decode cL_law (pc + 28) = .ok (.goto off, 3)) (ht : ((pc + 28 : Nat) : Int) + off = (tg : Int))
    (hcs : cells ≤ 600000 ∧ slots ≤ 7000000) (k : cq_V p l e room_1 s m args below meth c D cA X Bs nL (cells + 0) (slots + 0) Q tg L [] M) : cq_V p l e room_1 s m args below meth c D cA X Bs nL cells slots Q pc L [] M := by
  refine cq_aload_n F (i := 2) e0 rfl h2 ?_
  refine cq_callV F (C := RX7) (ci := 8) (kX7_thrown l D cA X Bs o M ho) (cwV 0 F.1.2.2.2.2 gL_law_X7_thrown rfl rfl rfl hdVX7_thrown ⟨Nat.le_of_ble_eq_true rfl, Nat.le_of_ble_eq_true rfl⟩) ho.kind ⟨by decide, by decide⟩ rfl rfl rfl (Nat.le_of_ble_eq_true rfl) e1 ⟨by show _ ≤ 601024; omega, by show _ ≤ 7293034; omega⟩ (cq_kIp fun r3 h_r3 => ?_)
  refine cq_iload F e4 h5 ?_
  refine cq_icmp_eq F (tgt := pc + 11) e6 (by omega) (fun _ => ?_) (fun hE => absurd (by rw [h_r3, hr, hth]) hE)
  refine cq_iload F e11 h5 ?_
  refine cq_if_ne F (tgt := pc + 28) e13 (by omega) (fun _ => ?_) (fun hE => ?_)
  · exact cq_goto F (tgt := tg) e28 ht k
  · have hz : q.1 = 0 := by
      rw [hr] at hE
      rcases (show q.1 = 0 ∨ q.1 = 1 ∨ q.1 = 2 ∨ q.1 = 3 by omega) with z | z | z | z
      · exact z
      · rw [z] at hE; exact absurd hE (by decide)
      · rw [z] at hE; exact absurd hE (by decide)
      · rw [z] at hE; exact absurd hE (by decide)
    refine cq_aload_n F (i := 3) e16 rfl h3 ?_
    refine cq_iconst F (v := 0) e17 rfl ?_
    refine cq_laload F hk9 hn9 (by decide) e18 ?_
    refine cq_iload F e19 h6 ?_
    refine cq_i2l F e21 ?_
    rw [ha hz, hr2 hz]
    refine cq_lcmp F e22 ?_
    rw [lg_cmp_s]
    refine cq_if_eq F (tgt := pc + 28) e23 (by omega) (fun _ => ?_) (fun hE => absurd rfl hE)
    exact cq_goto F (tgt := tg) e28 ht k
end CQZ
