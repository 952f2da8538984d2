/-! rows that the law's walks want: constants, floats compared, an array of ints made, a contract that throws nothing -/
theorem cq_T.ret {l : Launch} {y : MethodName} {ws : List Cond} {rm : Room} {D : va_G} {cA : Nat → ClassId} {X : cq_X} {Bs : Nat} {av : List Value} {M : cq_M} {P : Option Value → cq_M → Prop} {XP : String → cq_M → Prop} {mc ms : Nat} (h : cq_T l y ws rm D cA X Bs av M P XP mc ms) (hx : ∀ E M1, ¬ XP E M1) : cq_C l y ws rm D cA X Bs av M P mc ms := by
  unfold cq_T vx_Met at h
  unfold cq_C Met
  refine Jvm.Free.MetFree.mono h (fun _ _ h => h) (fun _ _ _ _ _ h => h) (fun a s o t _ hq => ?_)
  rcases hq with hq | ⟨q, -, E, ce, L, ⟨⟨M1, hx1, -⟩, -⟩, -⟩
  · exact hq
  · exact absurd hx1 (hx E M1)
theorem fq_cmp {r : UInt32} (h : vf_n32 r) : FP.fcmp r r = some .eq := by
  have h1 := fq_dec32 h
  show FP.Core.order (FP.Core.decode FP.Core.b32 r.toNat) (FP.Core.decode FP.Core.b32 r.toNat) = some .eq
  revert h1
  generalize FP.Core.decode FP.Core.b32 r.toNat = u
  intro h1
  cases u with
  | nan => exact absurd rfl h1
  | inf s => exact congrArg some (Int.compare_eq_eq.mpr rfl)
  | fin s c q => exact congrArg some (Int.compare_eq_eq.mpr rfl)
section CQW
variable {p : Program} {l : Launch} {e : Env} {R : Room} {s : State} {m : MethodId} {args : Array Value} {below : List Frame} {meth : Method} {c : Code} {D : va_G} {cA : Nat → ClassId} {X : cq_X} {Bs nL cells slots : Nat} {Q : State → Prop} {cc : ByteArray} {own : String} {Ts : List Cond} {pc : Nat} {L : List (Nat × Value)} {st : List Value} {M : cq_M}
theorem cq_ldc (F : cq_F p s m args meth c D cA Bs nL cc own Ts) {index : Nat} {v : Int32} (hconst : (Jvm.Cond.constant own index v).before args s = true) (hdg : decode cc pc = .ok (.ldc index, 2)) (k : cq_V p l e R s m args below meth c D cA X Bs nL cells slots Q (pc + 2) L (.int v :: st) M) : cq_V p l e R s m args below meth c D cA X Bs nL cells slots Q pc L st M := fun H locs ls hH hS hL => lv_ldc F.1.1 F.1.2.1 F.1.2.2.2.1 hconst hdg (k H locs ls hH hS hL)
theorem cq_alenI (F : cq_F p s m args meth c D cA Bs nL cc own Ts) {a n : Nat} (ha : X.1 a = 10) (hn : X.2.1 a = n) (hdg : decode cc pc = .ok (.arraylength, 1)) (k : cq_V p l e R s m args below meth c D cA X Bs nL cells slots Q (pc + 1) L (.int (nI n) :: st) M) : cq_V p l e R s m args below meth c D cA X Bs nL cells slots Q pc L (.ref a :: st) M := fun H locs ls hH hS hL => by
  subst hn
  exact va_alen F.1.1 F.1.2.1 F.2.1 (cq_one (hH.2.1 a 0 ha)) 0 0 rfl rfl rfl hdg (k H locs ls hH hS hL)
theorem cq_fcmp (F : cq_F p s m args meth c D cA Bs nL cc own Ts) {x : UInt32} {op : CmpOp} (hn : vf_n32 x) (hdg : decode cc pc = .ok (.fcmp op, 1)) (k : cq_V p l e R s m args below meth c D cA X Bs nL cells slots Q (pc + 1) L (.int 0 :: st) M) : cq_V p l e R s m args below meth c D cA X Bs nL cells slots Q pc L (.float x :: .float x :: st) M := fun H locs ls hH hS hL => by
  refine lv_fcmp F.1.1 F.1.2.1 hdg ?_
  rw [fq_cmp hn]
  exact k H locs ls hH hS hL
/-- new int[n] -/
theorem cq_newI (F : cq_F p s m args meth c D cA Bs nL cc own Ts) {n : Int32} {N : Nat} (harr : (Cond.arrayClass .int).before args s = true) (hn : n = nI N) (hN : N < 1000000) (hR : cells + 1 ≤ R.cells ∧ slots + N ≤ R.slots) (hdg : decode cc pc = .ok (.newarray .int, 2))
    (k : ∀ (q : Nat) (X1 : cq_X) (M1 : cq_M), (∀ x, X.1 x ≠ 0 → x < q) → cq_ge X X1 → X1.1 q = 10 ∧ X1.2.1 q = N → (∀ x, x < q → M1 x = M x) → cq_nv M1 q N (fun _ => 0) → (∀ x, X1.1 x ≠ 0 → x < q + 1) → cq_V p l e R s m args below meth c D cA X1 Bs nL (cells + 1) (slots + N) Q (pc + 2) L (.ref q :: st) M1) : cq_V p l e R s m args below meth c D cA X Bs nL cells slots Q pc L (.int n :: st) M := fun H locs ls hH hS hL => by
  subst hn
  have hK := cs_K.of hH
  have hlt : ∀ x, X.1 x ≠ 0 → x < H.size := fun x hx => by
    by_cases hx9 : X.1 x < 10
    · exact (hH.1 x _ rfl (Nat.pos_of_ne_zero hx) hx9).lt
    · exact (hH.2.1 x (X.1 x - 10) (by omega)).lt
  generalize hz : H.size = q at hlt
  refine cn_newa F (atype := .int) (t := 0) (a0 := (N, .inl (fun _ => 0))) (N := N) harr (F.2.1.2 0 _ rfl).2 rfl (fun z => by rw [Int32.lt_iff_toInt_lt, nI_toInt (by omega)] at z; simp at z; omega) (nI_clamp (by omega)) (by show N * 4 ≤ _; omega) hR hdg ?_ H locs ls hz hK hS hL
  intro H2 locs2 ls2 hz2 hH2 hS2 hL2
  have hx0 : ∀ x, X.1 x ≠ 0 → x ≠ q := fun x hx => by have := hlt x hx; omega
  obtain ⟨X1, hX1⟩ : ∃ X1 : cq_X, X1 = (fun x => if x = q then 10 else X.1 x, fun x => if x = q then N else X.2.1 x, X.2.2) := ⟨_, rfl⟩
  obtain ⟨M1, hM1⟩ : ∃ M1 : cq_M, M1 = fun x => if x = q then (fun _ => 0) else M x := ⟨_, rfl⟩
  have a1 : X1.1 q = 10 := by rw [hX1]; exact if_pos rfl
  have a2 : X1.2.1 q = N := by rw [hX1]; exact if_pos rfl
  have a5 : ∀ x, x ≠ q → X1.1 x = X.1 x ∧ X1.2.1 x = X.2.1 x ∧ X1.2.2 x = X.2.2 x := fun x g1 => by
    rw [hX1]
    exact ⟨if_neg g1, if_neg g1, rfl⟩
  have b1 : M1 q = fun _ => 0 := by rw [hM1]; exact if_pos rfl
  have b2 : ∀ x, x ≠ q → M1 x = M x := fun x g1 => by rw [hM1]; exact if_neg g1
  have hge : cq_ge X X1 := fun x hx => a5 x (hx0 x hx)
  refine k q X1 M1 hlt hge ⟨a1, a2⟩ (fun x hx => b2 x (by omega)) (fun j _ => by rw [b1]; rfl) (fun x hx => ?_) H2 locs2 ls2 (cs_K.to hH2 (fun a ha => ?_)) hS2 hL2
  · by_cases g1 : x = q
    · omega
    · rw [(a5 x g1).1] at hx
      have := hlt x hx
      omega
  · unfold cs_K
    rw [if_neg ha]
    by_cases g1 : a = q
    · subst g1
      rw [a1, if_neg (by decide), a2, b1, cn_u_s]
      rfl
    · obtain ⟨c1, c2, c3⟩ := a5 a g1
      rw [c1] at ha ⊢
      rw [c2, c3, cn_u_n g1]
      rw [if_neg ha]
      unfold cq_o cq_v
      rw [c3, b2 a g1]
end CQW
/-- an array of n ints -/
def lq_row (X : cq_X) (a n : Nat) : Prop := X.1 a = 10 ∧ X.2.1 a = n
theorem lq_row.ge {X X1 : cq_X} {a n : Nat} (h : lq_row X a n) (g : cq_ge X X1) : lq_row X1 a n := ⟨g.k h.1 (by decide), g.n h.1 (by decide) h.2⟩
