/-! new int[n][k]: an array and its rows -/
def cn_rows (K : cn_K) (sz n : Nat) (e0 e1 : va_E) : cn_K := fun x => if x = sz then some e0 else if sz < x ∧ x ≤ sz + n then some e1 else K x
theorem cn_rows_0 (K : cn_K) (sz n : Nat) (e0 e1 : va_E) : cn_rows K sz n e0 e1 sz = some e0 := if_pos rfl
theorem cn_rows_r {K : cn_K} {sz n x : Nat} {e0 e1 : va_E} (h1 : sz < x) (h2 : x ≤ sz + n) : cn_rows K sz n e0 e1 x = some e1 := by
  unfold cn_rows
  rw [if_neg (by omega), if_pos ⟨h1, h2⟩]
theorem cn_rows_n {K : cn_K} {sz n x : Nat} {e0 e1 : va_E} (h : x < sz ∨ sz + n < x) : cn_rows K sz n e0 e1 x = K x := by
  unfold cn_rows
  rw [if_neg (by omega), if_neg (by omega)]
section CNM
variable {p : Program} {l : Launch} {e : Env} {R : Room} {s : State} {m : MethodId} {args : Array Value} {below : List Frame} {meth : Method} {c : Code} {D : va_G} {cA : Nat → ClassId} {Bs nL cells slots : Nat} {Q : State → Prop} {cc : ByteArray} {own : String} {Ts : List Cond} {pc : Nat} {L : List (Nat × Value)} {st : List Value} {K : cn_K} {sz : Nat}
theorem cn_nm {K1 : cn_K} (k : ∀ K2 : cn_K, K2 = K1 → cn_V p l e R s m args below meth c D Bs nL cells slots Q pc L st K2 sz) : cn_V p l e R s m args below meth c D Bs nL cells slots Q pc L st K1 sz := k _ rfl
theorem cn_mna (F : cq_F p s m args meth c D cA Bs nL cc own Ts) (O : cn_O s) {index : Nat} {n k : Int32} {N' K' : Nat} (hcl : (Cond.classLink own index ("[" ++ (FieldType.array .int).toString)).before args s = true) (harr : (Cond.arrayClass .int).before args s = true) (hn : ¬ n < 0) (hk : ¬ k < 0) (hN : n.toNatClampNeg = N') (hM : k.toNatClampNeg = K') (hb1 : N' * 4 ≤ 536870912) (hb2 : K' * 4 ≤ 536870912) (hR : cells + (1 + N') ≤ R.cells ∧ slots + (N' + N' * K') ≤ R.slots) (hdg : decode cc pc = .ok (.multianewarray index 2, 4))
    (kk : cn_V p l e R s m args below meth c D Bs nL (cells + 1 + N') (slots + N' + N' * K') Q (pc + 4) L (.ref sz :: st) (cn_rows K sz N' (.inl (cA 6, N', .inr (.inr (.inr (.inr (fun i => if i < N' then some (sz + 1 + i) else none)))))) (.inl (cA 0, K', .inl (fun _ => 0)))) (sz + 1 + N')) : cn_V p l e R s m args below meth c D Bs nL cells slots Q pc L (.int k :: .int n :: st) K sz := fun H locs ls hz hH hS hL => by
  subst hN
  subst hM
  have hB : Bs ≤ sz := by rw [← hz]; exact Nat.le_trans F.2.2.2.1 hS.1
  subst hz
  intro T hT Xs
  obtain ⟨vm₁, c9, comp, -, fA, fC, -, -, X', step⟩ := Xs.multianewarray2F (ty := .int) F.1.1 F.1.2.2.2.1 hcl (va_AOA.use O.2.2.2) harr (g := F0 m pc ls (.int k :: .int n :: st)) rfl (by rw [F.1.2.1]; exact hdg) rfl hn hk hb1 hb2 (by omega) rfl rfl hR.1 hR.2
  obtain rfl : c9 = cA 6 := Option.some.inj (fA.symm.trans (F.2.1.2 6 _ rfl).2)
  obtain rfl : comp = cA 0 := Option.some.inj (fC.symm.trans (F.2.1.2 0 _ rfl).2)
  have hTh : (T.setVm vm₁).heap = H := hT
  have f1 := (Jvm.Free.Multi.fill_facts (T.setVm vm₁) (cA 6) (cA 0) n.toNatClampNeg k.toNatClampNeg (defaultValue .int) n.toNatClampNeg).1
  have f2 := (Jvm.Free.Multi.fill_facts (T.setVm vm₁) (cA 6) (cA 0) n.toNatClampNeg k.toNatClampNeg (defaultValue .int) n.toNatClampNeg).2.1
  have f3 : ∀ x : Nat, x < (T.setVm vm₁).heap.size → (Jvm.Free.Multi.fill (T.setVm vm₁) (cA 6) (cA 0) n.toNatClampNeg k.toNatClampNeg (defaultValue .int) n.toNatClampNeg).heap[x]? = (T.setVm vm₁).heap[x]? := fun x hx => Jvm.Free.Multi.fill_old (T.setVm vm₁) (cA 6) (cA 0) n.toNatClampNeg k.toNatClampNeg (defaultValue .int) hx n.toNatClampNeg
  have f4 := Jvm.Free.Multi.fill_inner (T.setVm vm₁) (cA 6) (cA 0) n.toNatClampNeg k.toNatClampNeg (defaultValue .int) n.toNatClampNeg
  generalize hF : Jvm.Free.Multi.fill (T.setVm vm₁) (cA 6) (cA 0) n.toNatClampNeg k.toNatClampNeg (defaultValue .int) n.toNatClampNeg = F9 at X' step f1 f2 f3 f4
  rw [hTh] at f1 f2 f3 f4
  have g2 : va_at D vwCl (H.size, .inl (cA 6, n.toNatClampNeg, .inr (.inr (.inr (.inr (fun i => if i < n.toNatClampNeg then some (H.size + 1 + i) else none)))))) F9.heap := by
    show F9.heap[H.size]? = some (vp_cell _ _)
    rw [f2, vp_cell_q]
    exact congrArg some (cn_outer (cA 6) n.toNatClampNeg H.size n.toNatClampNeg)
  have g4 : ∀ j : Nat, j < n.toNatClampNeg → va_at D vwCl (H.size + 1 + j, .inl (cA 0, k.toNatClampNeg, .inl (fun _ => 0))) F9.heap := fun j hj => by
    show F9.heap[H.size + 1 + j]? = some (vp_cell _ _)
    rw [f4 j hj, vp_cell_i, ← arrV_new]
    rfl
  obtain ⟨t, a1, b1⟩ := kk F9.heap locs ls f1 (fun a e9 he => by
    by_cases h0 : a = H.size
    · subst h0
      rw [cn_rows_0] at he
      cases he
      exact ⟨g2, hB⟩
    · by_cases h1 : H.size < a ∧ a ≤ H.size + n.toNatClampNeg
      · rw [cn_rows_r h1.1 h1.2] at he
        cases he
        have h2 := g4 (a - (H.size + 1)) (by omega)
        rw [show H.size + 1 + (a - (H.size + 1)) = a by omega] at h2
        exact ⟨h2, by omega⟩
      · rw [cn_rows_n (by omega)] at he
        have h3 := hH a e9 he
        exact ⟨h3.1.kept (f3 _ h3.1.lt), h3.2⟩) ⟨by rw [f1]; have := hS.1; omega, fun x h1 h2 => (f3 x (Nat.lt_of_lt_of_le h1 hS.1)).trans (hS.2.1 x h1 h2), hS.2.2⟩ hL F9 rfl X'
  refine ⟨t, step t ?_, b1⟩
  have e9 : T.heap.size = H.size := by rw [hT]
  rw [e9]
  exact a1
end CNM
