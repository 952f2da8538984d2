/-! the class's calls as the law makes them: they throw nothing -/
section NQ
variable {l : Launch} {D : va_G} {cA : Nat → ClassId} {X : cq_X} {Bs : Nat} {M : cq_M} {y : MethodName} {ws : List Cond} {rm : Room} {av : List Value} {q : op_T} {S : as_T} {names : List String} {o B mc ms : Nat}
theorem cx_no {q : op_T} {S S' : as_T} {names : List String} {E : String} {M M1 : cq_M} {v : Int32} (e : q = (0, v, S')) : ¬ cx q S names E M M1 := fun hx => by
  obtain ⟨-, -, k, hk, -⟩ := hx
  rw [e] at hk
  have : (0 : Nat) = k + 1 := hk
  omega
theorem cq_T.pur {v : Int32} (h : cq_T l y ws rm D cA X Bs av M (cq_PI (fun r M1 => cw q r M M1 o ∧ M1 = M)) (fun E M1 => cx q S names E M M1) mc ms) (e : q = (0, v, S)) : cq_C l y ws rm D cA X Bs av M (cq_PI (fun r M1 => r = v ∧ M1 = M)) mc ms :=
  (h.ret (fun E M1 => cx_no e)).impI (fun r M1 hp => ⟨by have := hp.1.2.1; rw [e] at this; exact this, hp.2⟩)
theorem cq_T.chg {v : Int32} {S' : as_T} (h : cq_T l y ws rm D cA X Bs av M (cq_PI (fun r M1 => cw q r M M1 o)) (fun E M1 => cx q S names E M M1) mc ms) (e : q = (0, v, S')) : cq_C l y ws rm D cA X Bs av M (cq_PI (fun r M1 => r = v ∧ ck M1 o S' ∧ cr_fr M M1 o 249)) mc ms :=
  (h.ret (fun E M1 => cx_no e)).impI (fun r M1 hp => by
    obtain ⟨-, h2, h3, h4⟩ := hp
    rw [e] at h2 h3
    exact ⟨h2, h3, h4⟩)
theorem nI_inn {a n : Nat} (h : a ≤ n) (hn : n < 2147483648) : 0 ≤ nI a ∧ nI a ≤ nI n := ⟨nI_pos' (by omega), nI_le h (by omega)⟩
theorem op_cd_n {i : Nat} (hk : as_ok S B) (hi : i < S_g S 6) : op_cd S (nI i) ∧ (nI i).toNatClampNeg = i := by
  have := hk.1.1
  exact ⟨nI_cd2 (by omega) hi, nI_clamp (by omega)⟩
theorem nq_count (hl : l.stackTraces = false) (hb : cq_isClock X o) (h : ck M o S) (hk : as_ok S B) (w : Nat) (hw : w ≤ 9) : cq_C l yX6_count wsX6_count rmX6_count D cA X Bs [.ref o, .int (nI w)] M (cq_PI (fun r M1 => r = nI (ns_count S w) ∧ M1 = M)) 1 6 :=
  (kX6_count l hl D cA X Bs o B S (nI w) M hb h hk).pur (by unfold op_count; rw [if_pos (show 0 ≤ nI w ∧ nI w ≤ 11 from nI_inn (n := 11) (by omega) (by decide)), nI_clamp (by omega)])
theorem nq_segment (hl : l.stackTraces = false) (hb : cq_isClock X o) (h : ck M o S) (hk : as_ok S B) (i k : Nat) (hi : i < S_g S 6) (hs : k < S_g S (7 + 11 * i)) : cq_C l yX6_segment wsX6_segment rmX6_segment D cA X Bs [.ref o, .int (nI i), .int (nI k)] M (cq_PI (fun r M1 => r = nI (S_g S (8 + 11 * i + k)) ∧ M1 = M)) 2 12 :=
  (kX6_segment l hl D cA X Bs o B S (nI i) (nI k) M hb h hk).pur (by
    have h7 := (hk.1.2.2.2.1 i hi).1.2
    obtain ⟨a1, a2⟩ := op_cd_n hk hi
    unfold op_segment
    rw [a2, nI_clamp (show k < 2 ^ 31 by omega), if_pos ⟨a1, nI_cd2 (by omega) hs⟩])
theorem nq_cordOf (hl : l.stackTraces = false) (hb : cq_isClock X o) (h : ck M o S) (hk : as_ok S B) (i w : Nat) (hi : i < S_g S 6) (hw : w ≤ 7) : cq_C l yX6_cordOf wsX6_cordOf rmX6_cordOf D cA X Bs [.ref o, .int (nI i), .int (nI w)] M (cq_PI (fun r M1 => r = ns_ofCord (S_g S) i w ∧ M1 = M)) 2 12 :=
  (kX6_cordOf l hl D cA X Bs o B S (nI i) (nI w) M hb h hk).pur (by
    obtain ⟨a1, a2⟩ := op_cd_n hk hi
    unfold op_cordOf
    rw [if_pos a1, if_pos (show 0 ≤ nI w ∧ nI w ≤ 7 from nI_inn (n := 7) hw (by decide)), a2, nI_clamp (by omega)])
theorem nq_front (hl : l.stackTraces = false) (hb : cq_isClock X o) (h : ck M o S) (hk : as_ok S B) (i : Nat) (x : Int32) (hi : i < S_g S 6) : cq_C l yX6_front wsX6_front rmX6_front D cA X Bs [.ref o, .int (nI i), .int x] M (cq_PI (fun r M1 => r = ns_front (S_g S) i x ∧ M1 = M)) 1 6 :=
  (kX6_front l hl D cA X Bs o B S (nI i) x M hb h hk).pur (by
    obtain ⟨a1, a2⟩ := op_cd_n hk hi
    unfold op_front
    rw [if_pos a1, a2])
theorem nq_lasts (hl : l.stackTraces = false) (hb : cq_isClock X o) (h : ck M o S) (hk : as_ok S B) (i f w : Nat) (hi : i < S_g S 6) (hf : 1 ≤ f ∧ f ≤ 2) (hw : w ≤ 1) : cq_C l yX6_lasts wsX6_lasts rmX6_lasts D cA X Bs [.ref o, .int (nI i), .int (nI f), .int (nI w)] M (cq_PI (fun r M1 => r = nI (ns_last (ns_left (S_g S) i) f) ∧ M1 = M)) 2 12 :=
  (kX6_lasts l hl D cA X Bs o B S (nI i) (nI f) (nI w) M hb h hk).pur (by
    obtain ⟨a1, a2⟩ := op_cd_n hk hi
    unfold op_lasts
    rw [if_pos a1, if_pos (show (1 ≤ nI f ∧ nI f ≤ 2) ∧ 0 ≤ nI w ∧ nI w ≤ 1 from ⟨⟨nI_le (a := 1) hf.1 (by omega), nI_le (b := 2) hf.2 (by omega)⟩, nI_inn (n := 1) hw (by decide)⟩), a2, nI_clamp (by omega)])
theorem nq_ruleOf (hl : l.stackTraces = false) (hb : cq_isClock X o) (h : ck M o S) (hk : as_ok S B) (k w : Nat) (hi : k < S_g S 51) (hw : w ≤ 3) : cq_C l yX6_ruleOf wsX6_ruleOf rmX6_ruleOf D cA X Bs [.ref o, .int (nI k), .int (nI w)] M (cq_PI (fun r M1 => r = nI (S_g S (52 + 4 * k + w)) ∧ M1 = M)) 1 6 :=
  (kX6_ruleOf l hl D cA X Bs o B S (nI k) (nI w) M hb h hk).pur (by
    have h51 := hk.1.2.1
    unfold op_ruleOf
    rw [if_pos (nI_cd2 (by omega) hi), if_pos (show 0 ≤ nI w ∧ nI w ≤ 3 from nI_inn (n := 3) hw (by decide)), nI_clamp (by omega), nI_clamp (by omega)])
theorem nq_entry (hl : l.stackTraces = false) (hb : cq_isClock X o) (h : ck M o S) (hk : as_ok S B) (hB : B < 10000000) (k j : Nat) (hkk : k < 1000) (hj : j < 1000) : cq_C l yX6_entry wsX6_entry rmX6_entry D cA X Bs [.ref o, .int (nI k), .int (nI j)] M (cq_PI (fun r M1 => r = (if k < S_g S 84 then en_at (S_g S (85 + 3 * k)) (S_g S (87 + 3 * k)) (S_g S (86 + 3 * k)) j else -1) ∧ M1 = M)) 2 20 :=
  (kX6_entry l hl D cA X Bs o B S (nI k) (nI j) M hb h hk hB).pur (by
    have h84 := hk.1.2.2.1
    unfold op_entry
    rw [if_pos ⟨nI_pos' (by omega), nI_pos' (by omega)⟩, nI_clamp (by omega), nI_clamp (by omega), cq_ifc (nI_ltI (a := k) (b := S_g S 84) (by omega) (by omega))])
theorem nq_outIn (hl : l.stackTraces = false) (hb : cq_isClock X o) (h : ck M o S) (hk : as_ok S B) (hB : B < 1999990000) (i : Nat) (hi : i < S_g S 6) : cq_C l yX6_outIn wsX6_outIn rmX6_outIn D cA X Bs [.ref o, .int (nI i)] M (cq_PI (fun r M1 => r = ns_outIn (S_g S) i ∧ ck M1 o S ∧ cr_fr M M1 o 249)) 1 6 :=
  (kX6_outIn l hl D cA X Bs o B S (nI i) M hb h hk hB).chg (by
    obtain ⟨a1, a2⟩ := op_cd_n hk hi
    unfold op_outIn
    rw [if_pos a1, a2])
end NQ
theorem ns_last_1 (L : Nat) : ns_last L 1 = L := by unfold ns_last; omega
theorem ns_last_2 (L : Nat) : ns_last L 2 = (L + 1) / 2 := by unfold ns_last; omega
section CQV
variable {p : Program} {l : Launch} {e : Env} {R : Room} {s : State} {m : MethodId} {args : Array Value} {below : List Frame} {meth : Method} {c : Code} {D : va_G} {cA : Nat → ClassId} {X : cq_X} {Bs nL cells slots : Nat} {Q : State → Prop} {pc : Nat} {L : List (Nat × Value)} {st : List Value} {M : cq_M}
theorem cq_kFe {x : UInt32} (h : cq_V p l e R s m args below meth c D cA X Bs nL cells slots Q pc L (.float x :: st) M) : ∀ (rv : Option Value) (M1 : cq_M), cq_PF (fun r M1 => r = x ∧ M1 = M) rv M1 → cq_V p l e R s m args below meth c D cA X Bs nL cells slots Q pc L (rv.toList ++ st) M1 := by
  intro rv M1 hp
  obtain ⟨r, rfl, rfl, rfl⟩ := hp
  exact h
end CQV
