/-! a StringBuilder: its shape, rows over it and its bytes (out of a short program) -/
/-- a StringBuilder at q, its 16 bytes behind it -/
def cq_isSB (X : cq_X) (q : Nat) : Prop := X.1 q = 9 ∧ X.2.2 q 0 = q + 1 ∧ X.1 (q + 1) = 18 ∧ X.2.1 (q + 1) = 16
theorem cq_isSB.kind {X : cq_X} {q : Nat} (h : cq_isSB X q) : X.1 q = 9 := h.1
theorem cq_isSB.t0 {X : cq_X} {q : Nat} (h : cq_isSB X q) : X.2.2 q 0 = q + 1 := h.2.1
theorem cq_isSB.k1 {X : cq_X} {q : Nat} (h : cq_isSB X q) : X.1 (q + 1) = 18 := h.2.2.1
theorem cq_isSB.n1 {X : cq_X} {q : Nat} (h : cq_isSB X q) : X.2.1 (q + 1) = 16 := h.2.2.2
theorem cq_tbf : ∀ i, i < 3 → ∀ j, j < cq_tl i → fits .byte (.int (cq_tb i j)) = true := by decide
/-- small numbers as bytes; the capacity -/
theorem sd_b : ∀ c, c < 128 → (nI c).toInt8.toInt32 = nI c := by decide
theorem sd_nar : ∀ c, c < 128 → vp_nar .byte (nI c) = nI c := by decide
theorem sd_cap : ∀ n, n < 17 → nI n - nI 16 ≤ 0 := by decide
theorem sd_shr : ∀ n, n < 17 → nI n >>> ((0 : Int32) &&& 31) = nI n := by decide
theorem sd_shl : ∀ n, n < 17 → nI n <<< ((0 : Int32) &&& 31) = nI n := by decide
section CQB
variable {p : Program} {l : Launch} {e : Env} {R : Room} {s : State} {m : MethodId} {args : Array Value} {below : List Frame} {meth : Method} {c : Code} {D : va_G} {cA : Nat → ClassId} {X : cq_X} {Bs nL cells slots : Nat} {Q : State → Prop} {cc : ByteArray} {own : String} {Ts : List Cond} {pc : Nat} {L : List (Nat × Value)} {st : List Value} {M : cq_M}
theorem cq_getIh (F : cq_F p s m args meth c D cA Bs nL cc own Ts) {a ci : Nat} {C : String} {T : u_T} {N index : Nat} (ha : X.1 a = ci) (hc : vwCl[ci]? = some (C, T, N)) (h9 : (0 < ci ∧ ci < 10) ∧ cq_N ci = N) (hin : ∀ w ∈ u_ws C T N, w ∈ Ts) (kf : Nat) (hk : kf < N) (hr : cq_r ci kf = false) (hlink : (Cond.fieldLink own index (T kf).1 (T kf).2.1 (T kf).2.2.1).before args s = true) (hdg : decode cc pc = .ok (.getfield index, 3)) (k : cq_V p l e R s m args below meth c D cA X Bs nL cells slots Q (pc + 3) L (.int (M a kf) :: st) M) : cq_V p l e R s m args below meth c D cA X Bs nL cells slots Q pc L (.ref a :: st) M := fun H locs ls hH hS hL => by
  have hv : (cq_o X M ci a)[kf]? = some (.int (M a kf)) := by rw [cq_o_at (by rw [h9.2]; exact hk)]; unfold cq_v; rw [hr]
  exact va_get (q0 := 0) F.1.1 F.1.2.1 F.1.2.2.2.2 hin F.1.2.2.2.1 F.2.1 (cq_one (hH.1 a ci ha h9.1.1 h9.1.2)) rfl hc kf hk hlink (fun _ h => h) hv hdg (k H locs ls hH hS hL)
theorem cq_getRh (F : cq_F p s m args meth c D cA Bs nL cc own Ts) {a ci : Nat} {C : String} {T : u_T} {N index : Nat} (ha : X.1 a = ci) (hc : vwCl[ci]? = some (C, T, N)) (h9 : (0 < ci ∧ ci < 10) ∧ cq_N ci = N) (hin : ∀ w ∈ u_ws C T N, w ∈ Ts) (kf : Nat) (hk : kf < N) (hr : cq_r ci kf = true) (hlink : (Cond.fieldLink own index (T kf).1 (T kf).2.1 (T kf).2.2.1).before args s = true) (hdg : decode cc pc = .ok (.getfield index, 3)) (k : cq_V p l e R s m args below meth c D cA X Bs nL cells slots Q (pc + 3) L (.ref (X.2.2 a kf) :: st) M) : cq_V p l e R s m args below meth c D cA X Bs nL cells slots Q pc L (.ref a :: st) M := fun H locs ls hH hS hL => by
  have hv : (cq_o X M ci a)[kf]? = some (.ref (X.2.2 a kf)) := by rw [cq_o_at (by rw [h9.2]; exact hk)]; unfold cq_v; rw [hr]
  exact va_get (q0 := 0) F.1.1 F.1.2.1 F.1.2.2.2.2 hin F.1.2.2.2.1 F.2.1 (cq_one (hH.1 a ci ha h9.1.1 h9.1.2)) rfl hc kf hk hlink (fun _ h => h) hv hdg (k H locs ls hH hS hL)
theorem cq_puth (F : cq_F p s m args meth c D cA Bs nL cc own Ts) {a ci : Nat} {C : String} {T : u_T} {N index : Nat} (ha : X.1 a = ci) (hc : vwCl[ci]? = some (C, T, N)) (h9 : (0 < ci ∧ ci < 10) ∧ cq_N ci = N) (hin : ∀ w ∈ u_ws C T N, w ∈ Ts) (ty0 : Nat → FieldType) (hty : ∀ k, k < N → parseFieldDescriptor (T k).2.2.1 = some (ty0 k)) (hnm : ∀ a, a < N → ∀ b, b < N → a ≠ b → (T a).2.1 ≠ (T b).2.1) (kf : Nat) (hk : kf < N) (hr : cq_r ci kf = false) (hlink : (Cond.fieldLink own index (T kf).1 (T kf).2.1 (T kf).2.2.1).before args s = true) (hfin : (T kf).2.2.2 = false) {x : Int32} (hn : narrow (ty0 kf) (.int x) = .int x) (hfit : fits (ty0 kf) (.int x) = true) (hdg : decode cc pc = .ok (.putfield index, 3)) (k : ∀ M1 : cq_M, M1 = cq_up M a kf x → cq_V p l e R s m args below meth c D cA X Bs nL cells slots Q (pc + 3) L st M1) : cq_V p l e R s m args below meth c D cA X Bs nL cells slots Q pc L (.int x :: .ref a :: st) M := fun H locs ls hH hS hL => by
  have hts := F.1.2.2.2.2
  have hK := F.2.1
  have hap := va_apart (own := own) hts hin ty0 hty hnm hK hc
  obtain ⟨r, h1, cell, q1, q2, q3, q4⟩ := hH.1 a ci ha h9.1.1 h9.1.2
  have hr9 : r = (C, T, N) := Option.some.inj (h1.symm.trans hc)
  subst hr9
  obtain ⟨hSl, hfc, kC, hkC, hkind⟩ := hK.1 ci _ hc
  obtain ⟨cf, kf2, fi, f, hi, hsl⟩ := hSl kf hk
  have hlay := hts _ (hin _ (u_in_lay hk))
  unfold u_lay at hlay
  rw [if_neg (by rw [hfin]; decide)] at hlay
  have hst := (u_facts hfc hkC (u_lays hts hin hk) hi).1
  have h6 := u_store (v := .int x) hfc hkC hkind hlay hi (hty kf hk) hn hfit
  have hsame := hi
  refine W.putK F.1.1 F.1.2.1 (f := f) ⟨F.1.2.2.2.1, hlink, ⟨_, _, _, hsame⟩, hst⟩ (by rw [q2]; exact h6) q1 q3 (by rw [hsl]; exact k2_hasslot (q4 kf hk)) rfl rfl hdg fun H' e1 e2 e3 => ?_
  rw [hsl] at e1 ⊢
  have hv : (cq_o X M ci a).length = N := by unfold cq_o; rw [List.length_map, List.length_range, h9.2]
  refine k _ rfl H' _ ls ⟨fun b cj hb h0 h10 => ?_, fun b t hb => ?_, hH.2.2⟩ (hS.put e2 e3 (hH.2.2 a (by rw [ha]; omega))) hL
  · by_cases hba : b = a
    · subst hba
      obtain rfl : cj = ci := by rw [← hb, ha]
      refine ⟨_, hc, t_OB.to (V := updV (vp_V (cq_o X M cj b)) kf (.int x)) ⟨_, e1, q2, q3, t_set q4 hap hk (.int x)⟩ (fun j hj => ?_)⟩
      show updV (vp_V (cq_o X M cj b)) kf (.int x) j = vp_V (cq_o X (cq_up M b kf x) cj b) j
      have hj1 : j < cq_N cj := by rw [h9.2]; exact hj
      have g1 : vp_V (cq_o X M cj b) j = cq_v X M cj b j := by unfold vp_V; rw [List.getD_eq_getElem?_getD, cq_o_at hj1]; rfl
      have g2 : vp_V (cq_o X (cq_up M b kf x) cj b) j = cq_v X (cq_up M b kf x) cj b j := by unfold vp_V; rw [List.getD_eq_getElem?_getD, cq_o_at hj1]; rfl
      rw [g2]
      by_cases hjk : j = kf
      · subst hjk
        simp [updV, cq_v, hr, cq_up_s]
      · simp only [updV, hjk, if_false, g1]
        unfold cq_v
        rw [cq_up_k hjk]
    · rw [cq_o_ne hba]
      exact (hH.1 b cj hb h0 h10).kept (e3 b hba)
  · have hba : b ≠ a := fun z => by subst z; omega
    rw [cq_up_row hba]
    exact (hH.2.1 b t hb).kept (e3 b hba)
theorem cq_getTh (F : cq_F p s m args meth c D cA Bs nL cc own Ts) {a ci : Nat} {C : String} {T : u_T} {N index t : Nat} (ha : X.1 a = ci) (hc : vwCl[ci]? = some (C, T, N)) (h9 : (0 < ci ∧ ci < 10) ∧ cq_N ci = N) (hin : ∀ w ∈ u_ws C T N, w ∈ Ts) (kf : Nat) (hk : kf < N) (hr : cq_r ci kf = true) (ht : X.2.2 a kf = t) (hlink : (Cond.fieldLink own index (T kf).1 (T kf).2.1 (T kf).2.2.1).before args s = true) (hdg : decode cc pc = .ok (.getfield index, 3)) (k : cq_V p l e R s m args below meth c D cA X Bs nL cells slots Q (pc + 3) L (.ref t :: st) M) : cq_V p l e R s m args below meth c D cA X Bs nL cells slots Q pc L (.ref a :: st) M := by
  subst ht
  exact cq_getRh F ha hc h9 hin kf hk hr hlink hdg k
theorem cq_bald (F : cq_F p s m args meth c D cA Bs nL cc own Ts) {a n : Nat} {i : Int32} (ha : X.1 a = 18) (hn : X.2.1 a = n) (hin : vp_in i n) (hdg : decode cc pc = .ok (.baload, 1)) (k : cq_V p l e R s m args below meth c D cA X Bs nL cells slots Q (pc + 1) L (.int (M a i.toNatClampNeg) :: st) M) : cq_V p l e R s m args below meth c D cA X Bs nL cells slots Q pc L (.int i :: .ref a :: st) M := fun H locs ls hH hS hL => by
  subst hn
  exact va_bald F.1.1 F.1.2.1 F.2.1 (cq_one (hH.2.1 a 8 ha)) 0 8 rfl rfl hin hdg (k H locs ls hH hS hL)
theorem cq_bast (F : cq_F p s m args meth c D cA Bs nL cc own Ts) {a n : Nat} {i x : Int32} (ha : X.1 a = 18) (hn : X.2.1 a = n) (hin : vp_in i n) (hdg : decode cc pc = .ok (.bastore, 1)) (k : ∀ M1 : cq_M, M1 = cq_up M a i.toNatClampNeg (vp_nar .byte x) → cq_V p l e R s m args below meth c D cA X Bs nL cells slots Q (pc + 1) L st M1) : cq_V p l e R s m args below meth c D cA X Bs nL cells slots Q pc L (.int x :: .int i :: .ref a :: st) M := fun H locs ls hH hS hL => by
  subst hn
  have hlt : i.toNatClampNeg < X.2.1 a := Nat.not_le.mp fun q => hin (Or.inr q)
  refine W.bast F.1.1 F.1.2.1 (hH.2.1 a 8 ha) ((F.2.1.2 8 _ rfl).1 (X.2.1 a) (fun j => .int (M a j))) (fun q => by cases q) (by show ¬ (i < 0 ∨ (arrV _ _ _).slots.size ≤ _); rw [arrV_size]; exact hin) rfl rfl hdg fun H1 e1 e2 e3 => ?_
  refine k _ rfl H1 _ ls ⟨fun b cj hb h0 h10 => ?_, fun b t hb => ?_, hH.2.2⟩ (hS.put e2 e3 (hH.2.2 a (by rw [ha]; omega))) hL
  · have hba : b ≠ a := fun z => by subst z; omega
    rw [cq_o_ne hba]
    exact (hH.1 b cj hb h0 h10).kept (e3 b hba)
  · by_cases hba : b = a
    · subst hba
      obtain rfl : t = 8 := by omega
      show H1[b]? = some (vp_cell (cA 8) (X.2.1 b, .inl (cq_up M b i.toNatClampNeg (vp_nar .byte x) b)))
      rw [e1, cq_up_self]
      show some ((vp_cell (cA 8) (X.2.1 b, .inl (M b))).setSlot _ _) = _
      rw [vp_cell_i, vp_cell_i, arrV_store]
      congr 2
      funext q
      by_cases hq : q = i.toNatClampNeg
      · subst hq
        simp [updV, upd, vp_nar]
        try rfl
      · simp [updV, upd, hq]
    · rw [cq_up_row hba]
      exact (hH.2.1 b t hb).kept (e3 b hba)
theorem cq_bald_j (F : cq_F p s m args meth c D cA Bs nL cc own Ts) {a n j : Nat} {i : Int32} (ha : X.1 a = 18) (hn : X.2.1 a = n) (hi : i = nI j) (hj : j < n ∧ n < 2147483648) (hdg : decode cc pc = .ok (.baload, 1)) (k : cq_V p l e R s m args below meth c D cA X Bs nL cells slots Q (pc + 1) L (.int (M a j) :: st) M) : cq_V p l e R s m args below meth c D cA X Bs nL cells slots Q pc L (.int i :: .ref a :: st) M := by
  subst hi
  refine cq_bald F ha hn (vp_in_nI hj.1 hj.2) hdg ?_
  rw [nI_clamp (Nat.lt_trans hj.1 hj.2)]
  exact k
theorem cq_bast_j (F : cq_F p s m args meth c D cA Bs nL cc own Ts) {a n j : Nat} {i x : Int32} (ha : X.1 a = 18) (hn : X.2.1 a = n) (hi : i = nI j) (hj : j < n ∧ n < 2147483648) (hdg : decode cc pc = .ok (.bastore, 1)) (k : ∀ M1 : cq_M, M1 = cq_up M a j (vp_nar .byte x) → cq_V p l e R s m args below meth c D cA X Bs nL cells slots Q (pc + 1) L st M1) : cq_V p l e R s m args below meth c D cA X Bs nL cells slots Q pc L (.int x :: .int i :: .ref a :: st) M := by
  subst hi
  refine cq_bast F ha hn (vp_in_nI hj.1 hj.2) hdg ?_
  rw [nI_clamp (Nat.lt_trans hj.1 hj.2)]
  exact k
theorem cq_alen (F : cq_F p s m args meth c D cA Bs nL cc own Ts) {a n : Nat} (ha : X.1 a = 18) (hn : X.2.1 a = n) (hdg : decode cc pc = .ok (.arraylength, 1)) (k : cq_V p l e R s m args below meth c D cA X Bs nL cells slots Q (pc + 1) L (.int (nI n) :: st) M) : cq_V p l e R s m args below meth c D cA X Bs nL cells slots Q pc L (.ref a :: st) M := fun H locs ls hH hS hL => by
  subst hn
  exact va_alen F.1.1 F.1.2.1 F.2.1 (cq_one (hH.2.1 a 8 ha)) 0 8 rfl rfl rfl hdg (k H locs ls hH hS hL)
theorem cq_i2b (F : cq_F p s m args meth c D cA Bs nL cc own Ts) {x : Int32} (hdg : decode cc pc = .ok (.i2b, 1)) (k : cq_V p l e R s m args below meth c D cA X Bs nL cells slots Q (pc + 1) L (.int x.toInt8.toInt32 :: st) M) : cq_V p l e R s m args below meth c D cA X Bs nL cells slots Q pc L (.int x :: st) M := fun H locs ls hH hS hL => lv_i2b F.1.1 F.1.2.1 hdg rfl (k H locs ls hH hS hL)
theorem cq_ineg (F : cq_F p s m args meth c D cA Bs nL cc own Ts) {x : Int32} (hdg : decode cc pc = .ok (.ineg, 1)) (k : cq_V p l e R s m args below meth c D cA X Bs nL cells slots Q (pc + 1) L (.int (-x) :: st) M) : cq_V p l e R s m args below meth c D cA X Bs nL cells slots Q pc L (.int x :: st) M := fun H locs ls hH hS hL => lv_ineg F.1.1 F.1.2.1 hdg (k H locs ls hH hS hL)
theorem cq_dup_x1 (F : cq_F p s m args meth c D cA Bs nL cc own Ts) {va vb : Value} (hdg : decode cc pc = .ok (.dup_x1, 1)) (hva : va.category = 1) (hvb : vb.category = 1) (k : cq_V p l e R s m args below meth c D cA X Bs nL cells slots Q (pc + 1) L (va :: vb :: va :: st) M) : cq_V p l e R s m args below meth c D cA X Bs nL cells slots Q pc L (va :: vb :: st) M := fun H locs ls hH hS hL => lv_dup_x1 F.1.1 F.1.2.1 hdg hva hvb (k H locs ls hH hS hL)
theorem cq_ifnonnull (F : cq_F p s m args meth c D cA Bs nL cc own Ts) {x : Nat} {off : Int} {tgt : Nat} (hdg : decode cc pc = .ok (.ifnonnull off, 3)) (ht : (pc : Int) + off = (tgt : Int)) (k : cq_V p l e R s m args below meth c D cA X Bs nL cells slots Q tgt L st M) : cq_V p l e R s m args below meth c D cA X Bs nL cells slots Q pc L (.ref x :: st) M := fun H locs ls hH hS hL => lv_ifnonnull F.1.1 F.1.2.1 hdg ht (k H locs ls hH hS hL)
theorem cq_callU (F : cq_F p s m args meth c D cA Bs nL cc own Ts) {x y : MethodName} {bytes : ByteArray} {maxL mc ms n index : Nat} {ret : Option FieldType} {ws : List Cond} {rm : Room} {Post : Option Value → cq_M → Prop} {C owner : String} {b ci : Nat} {q9 : vw_C} {As : List Value} (hM : cq_C l y ws rm D cA X Bs (.ref b :: As) M Post mc ms) (cw : va_CU R s args own C owner index x y bytes maxL ret ws rm mc ms n) (hb : X.1 b = ci) (h9 : 0 < ci ∧ ci < 10) (hc : vwCl[ci]? = some q9) (hC : q9.1 = C) (hn : As.length = n) (hW : (st.map fun v => v.category).sum ≤ 8) (hdg : decode cc pc = .ok (.invokevirtual index, 3)) (hf : cells + mc ≤ R.cells ∧ slots + ms ≤ R.slots) (k : ∀ (rv : Option Value) (M1 : cq_M), Post rv M1 → cq_V p l e R s m args below meth c D cA X Bs nL (cells + mc) (slots + ms) Q (pc + 3) L (rv.toList ++ st) M1) : cq_V p l e R s m args below meth c D cA X Bs nL cells slots Q pc L (As.reverse ++ .ref b :: st) M := fun H locs ls hH hS hL => by
  subst hC
  exact cq_back F hS hL (va_runU (As := As) (rest := st) F.1 hM cw ⟨cq_blind, va_recv F.2.1 (cq_one (hH.1 b ci hb h9.1 h9.2)) hc (q0 := 0) rfl, fun U hU hW2 => ⟨rfl, by rw [hU]; exact hH, va_K.moved hW2.alike F.2.1, by rw [hU]; exact Nat.le_trans F.2.2.2.1 hS.1, F.2.2.2.2.go hW2 (fun a h1 h2 => by rw [hU]; exact hS.2.1 a h1 h2)⟩⟩ rfl hn hL.size rfl (lv_room hW) hdg hf) k
theorem cq_callSU (F : cq_F p s m args meth c D cA Bs nL cc own Ts) {y : MethodName} {bytes : ByteArray} {maxL mc ms n index : Nat} {ret : Option FieldType} {ws : List Cond} {rm : Room} {Post : Option Value → cq_M → Prop} {C : String} {b ci : Nat} {q9 : vw_C} {As : List Value} (hM : cq_C l y ws rm D cA X Bs (.ref b :: As) M Post mc ms) (cw : va_CS R s args own index y bytes maxL ret ws rm mc ms n) (hb : X.1 b = ci) (h9 : 0 < ci ∧ ci < 10) (hc : vwCl[ci]? = some q9) (hC : q9.1 = C) (hn : As.length = n) (hW : (st.map fun v => v.category).sum ≤ 8) (hdg : decode cc pc = .ok (.invokespecial index, 3)) (hf : cells + mc ≤ R.cells ∧ slots + ms ≤ R.slots) (k : ∀ (rv : Option Value) (M1 : cq_M), Post rv M1 → cq_V p l e R s m args below meth c D cA X Bs nL (cells + mc) (slots + ms) Q (pc + 3) L (rv.toList ++ st) M1) : cq_V p l e R s m args below meth c D cA X Bs nL cells slots Q pc L (As.reverse ++ .ref b :: st) M := fun H locs ls hH hS hL => by
  subst hC
  exact cq_back F hS hL (va_runSU (F.2.1.1 ci _ hc).2 (As := As) (rest := st) F.1 hM cw ⟨cq_blind, va_recv F.2.1 (cq_one (hH.1 b ci hb h9.1 h9.2)) hc (q0 := 0) rfl, fun U hU hW2 => ⟨rfl, by rw [hU]; exact hH, va_K.moved hW2.alike F.2.1, by rw [hU]; exact Nat.le_trans F.2.2.2.1 hS.1, F.2.2.2.2.go hW2 (fun a h1 h2 => by rw [hU]; exact hS.2.1 a h1 h2)⟩⟩ rfl hn hL.size rfl (lv_room hW) hdg hf) k
/-- the bytes of the text i, laid at dst of the array a -/
theorem cq_copyS (F : cq_F p s m args meth c D cA Bs nL cc own Ts) {i a n dst index : Nat} (hi : i < 3) (ha : X.1 a = 18) (hn : X.2.1 a = n) (hd : dst + cq_tl i ≤ n ∧ n < 2147483648) (hlink : (Cond.methodLink own index arraycopyName).before args s = true) (hnat : (Cond.native arraycopyName).before args s = true) (hstat : (Cond.static arraycopyName).before args s = true) (hini : (Cond.initialized "java/lang/System").before args s = true) (hR : 1 ≤ R.frames ∧ (st.map fun v => v.category).sum + (nativeFrameWords "java/lang/System" "arraycopy" 5 + 11) ≤ R.locals) (hdg : decode cc pc = .ok (.invokestatic index, 3))
    (k : ∀ M1 : cq_M, (∀ j, M1 a j = if dst ≤ j ∧ j < dst + cq_tl i then cq_tb i (j - dst) else M a j) → (∀ x, x ≠ a → M1 x = M x) → cq_V p l e R s m args below meth c D cA X Bs nL cells slots Q (pc + 3) L st M1) : cq_V p l e R s m args below meth c D cA X Bs nL cells slots Q pc L (.int (nI (cq_tl i)) :: .int (nI dst) :: .ref a :: .int 0 :: .ref (D.2 101 i) :: st) M := fun H locs ls hH hS hL => by
  subst hn
  have hb0 : (fun x => if x = a then (fun j => if dst ≤ j ∧ j < dst + cq_tl i then cq_tb i (j - dst) else M a j) else M x : cq_M) a = fun j => if dst ≤ j ∧ j < dst + cq_tl i then cq_tb i (j - dst) else M a j := if_pos rfl
  have hbn : ∀ x, x ≠ a → (fun x => if x = a then (fun j => if dst ≤ j ∧ j < dst + cq_tl i then cq_tb i (j - dst) else M a j) else M x : cq_M) x = M x := fun x hx => if_neg hx
  generalize (fun x => if x = a then (fun j => if dst ≤ j ∧ j < dst + cq_tl i then cq_tb i (j - dst) else M a j) else M x : cq_M) = M1 at hb0 hbn
  have k1 := k M1 (fun j => by rw [hb0]) hbn
  obtain ⟨src, s1, s2, s3, s4, -, s5, s6⟩ := (F.2.2.2.2.so hi).2.2.2
  have hsrc : H[D.2 101 i]? = some src := (hS.2.1 _ (Array.getElem?_eq_some_iff.mp s1).1 s6).trans s1
  have hdst : H[a]? = some (vp_cell (cA 8) (X.2.1 a, .inl (M a))) := hH.2.1 a 8 ha
  obtain ⟨so, kA, kB, kC, kD⟩ := s2
  obtain ⟨-, kE, kF, kG, kI⟩ := (F.2.1.2 8 _ rfl).1 (X.2.1 a) (fun j => .int (M a j))
  have el : (nI (cq_tl i)).toNatClampNeg = cq_tl i := nI_clamp (by omega)
  have ed : (nI dst).toNatClampNeg = dst := nI_clamp (by omega)
  have il : (nI (cq_tl i)).toInt = (cq_tl i : Int) := nI_toInt (by omega)
  have idd : (nI dst).toInt = (dst : Int) := nI_toInt (by omega)
  intro T hT X9
  obtain ⟨vm1, Y, go⟩ := X9.arraycopy F.1.1 F.1.2.2.2.1 hlink hnat hstat hini (src := D.2 101 i) (dst := a) (cs := src) (cd := vp_cell (cA 8) (X.2.1 a, .inl (M a))) (srcPos := 0) (destPos := nI dst) (n := nI (cq_tl i)) (by rw [hT]; exact hsrc) (by rw [hT]; exact hdst) so (fun _ h => by cases h) s3 (fun h => by cases h) kB kF kD kI (by simp [refKind]) (by decide) (nI_pos (by omega)) (nI_pos (by omega))
    (by rw [il]; show ¬ (0 : Int) + _ > _; omega)
    (by rw [il, idd]; show ¬ _ > ((arrV (cA 8) (X.2.1 a) (fun j => .int (M a j))).slots.size : Int); rw [arrV_size]; omega)
    (fun _ _ j hj => by
      rw [el] at hj
      have e2 : src.slots.getD ((0 : Int32).toNatClampNeg + j) .null = .int (cq_tb i j) := by
        rw [show (0 : Int32).toNatClampNeg + j = j from Nat.zero_add j, Array.getD_eq_getD_getElem?, s5 j hj]
        rfl
      exact ⟨by rw [e2]; exact cq_tbf i hi j hj, by rw [e2]; exact trivial⟩)
    (g := F0 m pc ls (.int (nI (cq_tl i)) :: .int (nI dst) :: .ref a :: .int 0 :: .ref (D.2 101 i) :: st)) rfl (by rw [F.1.2.2.1]; exact hL.size) (rest := st) rfl (by rw [F.1.2.1]; exact hdg) hR.1 (by show 2 * 0 + _ + _ ≤ _; have := hR.2; omega)
  have ec : copied src (vp_cell (cA 8) (X.2.1 a, .inl (M a))) 0 (nI dst) (nI (cq_tl i)) = vp_cell (cA 8) (X.2.1 a, .inl (M1 a)) := by
    have e8 : copied src (vp_cell (cA 8) (X.2.1 a, .inl (M a))) 0 (nI dst) (nI (cq_tl i)) = vp_cell (cA 8) (X.2.1 a, .inl (va_cpy (cq_tb i) (M a) (0 : Int32).toNatClampNeg (nI dst).toNatClampNeg (nI (cq_tl i)).toNatClampNeg)) := va_copiedX (fun z => .int z) src (cA 8) (cq_tb i) (M a) s5 (by rw [el]; show 0 + _ ≤ _; omega)
    rw [e8, el, ed, hb0]
    refine congrArg (fun f => vp_cell (cA 8) (X.2.1 a, .inl f)) (funext fun j => ?_)
    show va_cpy (cq_tb i) (M a) 0 dst (cq_tl i) j = _
    unfold va_cpy
    rw [Nat.zero_add]
  rw [ec] at Y go
  have hlt : a < H.size := (Array.getElem?_eq_some_iff.mp hdst).1
  have on : ∀ q : Nat, q ≠ a → (H.setIfInBounds a (vp_cell (cA 8) (X.2.1 a, .inl (M1 a))))[q]? = H[q]? := fun q hq => by simp [Array.getElem?_setIfInBounds, Ne.symm hq]
  have oa : (H.setIfInBounds a (vp_cell (cA 8) (X.2.1 a, .inl (M1 a))))[a]? = some (vp_cell (cA 8) (X.2.1 a, .inl (M1 a))) := by simp [Array.getElem?_setIfInBounds, hlt]
  have hA : cq_A Bs a := hH.2.2 a (by rw [ha]; decide)
  obtain ⟨t, r1, r2⟩ := k1 (H.setIfInBounds a (vp_cell (cA 8) (X.2.1 a, .inl (M1 a)))) _ ls ⟨fun b cj hb h0 h10 => by
      have hba : b ≠ a := fun z => by subst z; omega
      have := (hH.1 b cj hb h0 h10).kept (on b hba)
      unfold cq_o cq_v at this ⊢
      rw [hbn b hba]
      exact this, fun b t hb => by
      by_cases hba : b = a
      · subst hba
        obtain rfl : t = 8 := by omega
        exact oa
      · rw [hbn b hba]
        exact (hH.2.1 b t hb).kept (on b hba), hH.2.2⟩ ⟨by simp; exact hS.1, fun q g1 g2 => by rw [on q (fun z => g2 (by rw [z]; exact hA))]; exact hS.2.1 q g1 g2, fun q hq => by
      rcases List.mem_append.mp hq with h | h
      · exact hS.2.2 q h
      · obtain ⟨z, -, hz⟩ := List.mem_map.mp h
        rw [← hz]
        exact hA⟩ hL _ (by rw [← hT]; rfl) Y
  exact ⟨t, go t r1, r2⟩
end CQB
