/-! texts: what the walks read of them; one row each (out of a short program) -/
def cq_tl (i : Nat) : Nat := match cq_tx[i]? with | some q => q.2.2.2.1 | none => 0
def cq_tb (i j : Nat) : Int32 := match cq_tx[i]? with | some q => q.2.2.2.2.getD j 0 | none => 0
/-- the text i as an object: its fields, its bytes -/
def cq_so (D : va_G) (Bs i : Nat) (U : State) : Prop := va_O "java/lang/String" (D.2 100 i) (fun a => Bs ≤ a) U U.heap ∧ va_OF "java/lang/String" "coder" "B" (.int 0) (D.2 100 i) (fun a => Bs ≤ a) U U.heap ∧ va_OF "java/lang/String" "value" "[B" (.ref (D.2 101 i)) (D.2 100 i) (fun a => Bs ≤ a) U U.heap ∧ va_T .byte (D.2 101 i) (cq_tl i) (fun j => .int (cq_tb i j)) (fun a => Bs ≤ a) U U.heap
theorem cq_E.so {D : va_G} {Bs : Nat} {U : State} (h : cq_E D Bs U) {i : Nat} (hi : i < 7) : cq_so D Bs i U := by
  have h9 : i = 0 ∨ i = 1 ∨ i = 2 ∨ i = 3 ∨ i = 4 ∨ i = 5 ∨ i = 6 := by omega
  rcases h9 with rfl | rfl | rfl | rfl | rfl | rfl | rfl
  · exact (h.2.2.2.2.2.1 0 ("CordClock$Book", 50, "lit L", 5, [108, 105, 116, 32, 76]) rfl).1.1 0 (by decide)
  · exact (h.2.2.2.2.2.1 1 ("CordClock$Book", 52, "lit R", 5, [108, 105, 116, 32, 82]) rfl).1.1 0 (by decide)
  · exact (h.2.2.2.2.2.1 2 ("CordClock$Book", 54, "out", 3, [111, 117, 116]) rfl).1.1 0 (by decide)
  · exact (h.2.2.2.2.2.1 3 ("CordClock$OrderText", 72, "new", 3, [110, 101, 119]) rfl).1.1 0 (by decide)
  · exact (h.2.2.2.2.2.1 4 ("CordClock$OrderText", 74, "lit", 3, [108, 105, 116]) rfl).1.1 0 (by decide)
  · exact (h.2.2.2.2.2.1 5 ("CordClock$OrderText", 76, "when", 4, [119, 104, 101, 110]) rfl).1.1 0 (by decide)
  · exact (h.2.2.2.2.2.1 6 ("CordClock$OrderText", 78, "run", 3, [114, 117, 110]) rfl).1.1 0 (by decide)
theorem cq_E.cs {D : va_G} {Bs : Nat} {U : State} (h : cq_E D Bs U) : va_Z "java/lang/String" "COMPACT_STRINGS" "Z" (.int 1) (fun a => Bs ≤ a) U U.heap := h.2.2.2.2.2.2.2.2.1
theorem cq_E.si {D : va_G} {Bs : Nat} {U : State} (h : cq_E D Bs U) : va_Zq "jdk/internal/util/Preconditions" "SIOOBE_FORMATTER" "Ljava/util/function/BiFunction;" (fun a => Bs ≤ a) U U.heap := h.2.2.2.2.2.2.2.2.2.1
theorem cq_E.d1 {D : va_G} {Bs : Nat} {U : State} (h : cq_E D Bs U) : va_Z "java/lang/Integer" "DigitOnes" "[B" (.ref (D.2 102 0)) (fun a => Bs ≤ a) U U.heap ∧ va_T .byte (D.2 102 0) 100 (fun j => .int (Int32.ofNat (48 + j % 10))) (fun a => Bs ≤ a) U U.heap := h.2.2.2.2.2.2.2.2.2.2.1
theorem cq_E.d2 {D : va_G} {Bs : Nat} {U : State} (h : cq_E D Bs U) : va_Z "java/lang/Integer" "DigitTens" "[B" (.ref (D.2 102 1)) (fun a => Bs ≤ a) U U.heap ∧ va_T .byte (D.2 102 1) 100 (fun j => .int (Int32.ofNat (48 + j / 10))) (fun a => Bs ≤ a) U U.heap := h.2.2.2.2.2.2.2.2.2.2.2.1
theorem cq_E.nk {D : va_G} {Bs : Nat} {U : State} (h : cq_E D Bs U) {C T : String} (hm : (C, T) ∈ cq_nk) : va_Nc C T U := h.2.2.2.2.2.2.2.2.2.2.2.2 _ hm
section CQS
variable {p : Program} {l : Launch} {e : Env} {R : Room} {s : State} {m : MethodId} {args : Array Value} {below : List Frame} {meth : Method} {c : Code} {D : va_G} {cA : Nat → ClassId} {X : cq_X} {Bs nL cells slots : Nat} {Q : State → Prop} {cc : ByteArray} {own : String} {Ts : List Cond} {pc : Nat} {L : List (Nat × Value)} {st : List Value} {M : cq_M}
theorem cq_ldcS (F : cq_F p s m args meth c D cA Bs nL cc own Ts) {i index n : Nat} {tx : String} {bs : List Int32} (hq : cq_tx[i]? = some (own, index, tx, n, bs)) (hdg : decode cc pc = .ok (.ldc index, 2)) (k : cq_V p l e R s m args below meth c D cA X Bs nL cells slots Q (pc + 2) L (.ref (D.2 100 i) :: st) M) : cq_V p l e R s m args below meth c D cA X Bs nL cells slots Q pc L st M := fun H locs ls hH hS hL => va_ldcS F.1.1 F.1.2.1 F.1.2.2.2.1 (F.2.2.2.2.2.2.2.2.2.1 i _ hq).2 hdg (k H locs ls hH hS hL)
theorem cq_getCS (F : cq_F p s m args meth c D cA Bs nL cc own Ts) {index : Nat} (hlink : (Cond.fieldLink own index "java/lang/String" "COMPACT_STRINGS" "Z").before args s = true) (hdg : decode cc pc = .ok (.getstatic index, 3)) (k : cq_V p l e R s m args below meth c D cA X Bs nL cells slots Q (pc + 3) L (.int 1 :: st) M) : cq_V p l e R s m args below meth c D cA X Bs nL cells slots Q pc L st M := fun H locs ls hH hS hL => va_gets (A := cq_A Bs) F.1.1 F.1.2.1 F.2.2.2.2.cs hS F.1.2.2.2.1 hlink (fun _ h => h) hdg (k H locs ls hH hS hL)
theorem cq_getSI (F : cq_F p s m args meth c D cA Bs nL cc own Ts) {index : Nat} (hlink : (Cond.fieldLink own index "jdk/internal/util/Preconditions" "SIOOBE_FORMATTER" "Ljava/util/function/BiFunction;").before args s = true) (hdg : decode cc pc = .ok (.getstatic index, 3)) (k : ∀ t : Nat, cq_V p l e R s m args below meth c D cA X Bs nL cells slots Q (pc + 3) L (.ref t :: st) M) (k2 : cq_V p l e R s m args below meth c D cA X Bs nL cells slots Q (pc + 3) L (.null :: st) M) : cq_V p l e R s m args below meth c D cA X Bs nL cells slots Q pc L st M := fun H locs ls hH hS hL => by
  rcases F.2.2.2.2.si with h | ⟨t, h⟩
  · exact va_gets (A := cq_A Bs) F.1.1 F.1.2.1 h hS F.1.2.2.2.1 hlink (fun _ h => h) hdg (k2 H locs ls hH hS hL)
  · exact va_gets (A := cq_A Bs) F.1.1 F.1.2.1 h hS F.1.2.2.2.1 hlink (fun _ h => h) hdg (k t H locs ls hH hS hL)
theorem cq_getD1 (F : cq_F p s m args meth c D cA Bs nL cc own Ts) {index : Nat} (hlink : (Cond.fieldLink own index "java/lang/Integer" "DigitOnes" "[B").before args s = true) (hdg : decode cc pc = .ok (.getstatic index, 3)) (k : cq_V p l e R s m args below meth c D cA X Bs nL cells slots Q (pc + 3) L (.ref (D.2 102 0) :: st) M) : cq_V p l e R s m args below meth c D cA X Bs nL cells slots Q pc L st M := fun H locs ls hH hS hL => va_gets (A := cq_A Bs) F.1.1 F.1.2.1 F.2.2.2.2.d1.1 hS F.1.2.2.2.1 hlink (fun _ h => h) hdg (k H locs ls hH hS hL)
theorem cq_getD2 (F : cq_F p s m args meth c D cA Bs nL cc own Ts) {index : Nat} (hlink : (Cond.fieldLink own index "java/lang/Integer" "DigitTens" "[B").before args s = true) (hdg : decode cc pc = .ok (.getstatic index, 3)) (k : cq_V p l e R s m args below meth c D cA X Bs nL cells slots Q (pc + 3) L (.ref (D.2 102 1) :: st) M) : cq_V p l e R s m args below meth c D cA X Bs nL cells slots Q pc L st M := fun H locs ls hH hS hL => va_gets (A := cq_A Bs) F.1.1 F.1.2.1 F.2.2.2.2.d2.1 hS F.1.2.2.2.1 hlink (fun _ h => h) hdg (k H locs ls hH hS hL)
theorem cq_getSc (F : cq_F p s m args meth c D cA Bs nL cc own Ts) {i index : Nat} (hi : i < 7) (hlink : (Cond.fieldLink own index "java/lang/String" "coder" "B").before args s = true) (hdg : decode cc pc = .ok (.getfield index, 3)) (k : cq_V p l e R s m args below meth c D cA X Bs nL cells slots Q (pc + 3) L (.int 0 :: st) M) : cq_V p l e R s m args below meth c D cA X Bs nL cells slots Q pc L (.ref (D.2 100 i) :: st) M := fun H locs ls hH hS hL => vk_getf (A := cq_A Bs) F.1.1 F.1.2.1 (F.2.2.2.2.so hi).2.1 hS F.1.2.2.2.1 hlink (fun _ h => h) hdg (k H locs ls hH hS hL)
theorem cq_getSv (F : cq_F p s m args meth c D cA Bs nL cc own Ts) {i index : Nat} (hi : i < 7) (hlink : (Cond.fieldLink own index "java/lang/String" "value" "[B").before args s = true) (hdg : decode cc pc = .ok (.getfield index, 3)) (k : cq_V p l e R s m args below meth c D cA X Bs nL cells slots Q (pc + 3) L (.ref (D.2 101 i) :: st) M) : cq_V p l e R s m args below meth c D cA X Bs nL cells slots Q pc L (.ref (D.2 100 i) :: st) M := fun H locs ls hH hS hL => vk_getf (A := cq_A Bs) F.1.1 F.1.2.1 (F.2.2.2.2.so hi).2.2.1 hS F.1.2.2.2.1 hlink (fun _ h => h) hdg (k H locs ls hH hS hL)
theorem cq_lenSv (F : cq_F p s m args meth c D cA Bs nL cc own Ts) {i : Nat} (hi : i < 7) (hdg : decode cc pc = .ok (.arraylength, 1)) (k : cq_V p l e R s m args below meth c D cA X Bs nL cells slots Q (pc + 1) L (.int (nI (cq_tl i)) :: st) M) : cq_V p l e R s m args below meth c D cA X Bs nL cells slots Q pc L (.ref (D.2 101 i) :: st) M := fun H locs ls hH hS hL => va_tlen (A := cq_A Bs) F.1.1 F.1.2.1 (F.2.2.2.2.so hi).2.2.2 hS rfl hdg (k H locs ls hH hS hL)
theorem cq_baldSv (F : cq_F p s m args meth c D cA Bs nL cc own Ts) {i j : Nat} {x : Int32} (hi : i < 7) (hx : x = nI j) (hj : j < cq_tl i ∧ cq_tl i < 2147483648) (hdg : decode cc pc = .ok (.baload, 1)) (k : cq_V p l e R s m args below meth c D cA X Bs nL cells slots Q (pc + 1) L (.int (cq_tb i j) :: st) M) : cq_V p l e R s m args below meth c D cA X Bs nL cells slots Q pc L (.int x :: .ref (D.2 101 i) :: st) M := by
  subst hx
  exact fun H locs ls hH hS hL => va_tb (A := cq_A Bs) F.1.1 F.1.2.1 (F.2.2.2.2.so hi).2.2.2 hS (vp_in_nI hj.1 hj.2) (by rw [nI_clamp (Nat.lt_trans hj.1 hj.2)]) hdg (k H locs ls hH hS hL)
theorem cq_baldD (F : cq_F p s m args meth c D cA Bs nL cc own Ts) {n j : Nat} {f : Nat → Int32} {t : Nat} {x : Int32} (hT : va_T .byte t n (fun j => .int (f j)) (fun a => Bs ≤ a) s s.heap) (hx : x = nI j) (hj : j < n ∧ n < 2147483648) (hdg : decode cc pc = .ok (.baload, 1)) (k : cq_V p l e R s m args below meth c D cA X Bs nL cells slots Q (pc + 1) L (.int (f j) :: st) M) : cq_V p l e R s m args below meth c D cA X Bs nL cells slots Q pc L (.int x :: .ref t :: st) M := by
  subst hx
  exact fun H locs ls hH hS hL => va_tb (A := cq_A Bs) F.1.1 F.1.2.1 hT hS (vp_in_nI hj.1 hj.2) (by rw [nI_clamp (Nat.lt_trans hj.1 hj.2)]) hdg (k H locs ls hH hS hL)
/-- a call of a method of a text -/
theorem cq_callVs (F : cq_F p s m args meth c D cA Bs nL cc own Ts) {y : MethodName} {bytes : ByteArray} {maxL mc ms n index i : Nat} {ret : Option FieldType} {ws : List Cond} {rm : Room} {Post : Option Value → cq_M → Prop} {As : List Value} (hi : i < 7) (hM : cq_C l y ws rm D cA X Bs (.ref (D.2 100 i) :: As) M Post mc ms) (cw : CallW R s args own "java/lang/String" index y bytes maxL ret ws rm mc ms n) (hn : As.length = n) (hW : (st.map fun v => v.category).sum ≤ 8) (hdg : decode cc pc = .ok (.invokevirtual index, 3)) (hf : cells + mc ≤ R.cells ∧ slots + ms ≤ R.slots) (k : ∀ (rv : Option Value) (M1 : cq_M), Post rv M1 → cq_V p l e R s m args below meth c D cA X Bs nL (cells + mc) (slots + ms) Q (pc + 3) L (rv.toList ++ st) M1) : cq_V p l e R s m args below meth c D cA X Bs nL cells slots Q pc L (As.reverse ++ .ref (D.2 100 i) :: st) M := fun H locs ls hH hS hL => by
  have hre : ∃ cell : Cell, H[D.2 100 i]? = some cell ∧ cell.vm.isStatics = false ∧ s.vm.findClass "java/lang/String" = some cell.cls := by
    obtain ⟨cell, h1, h2, h3, -⟩ := (F.2.2.2.2.so hi).1.kept hS.2.1
    exact ⟨cell, h1, h2, h3⟩
  exact cq_back F hS hL (va_runV (As := As) (rest := st) F.1 hM cw ⟨cq_blind, hre, fun U hU hW2 => ⟨rfl, by rw [hU]; exact hH, va_K.moved hW2.alike F.2.1, by rw [hU]; exact Nat.le_trans F.2.2.2.1 hS.1, F.2.2.2.2.go hW2 (fun a h1 h2 => by rw [hU]; exact hS.2.1 a h1 h2)⟩⟩ rfl hn hL.size rfl (lv_room hW) hdg hf) k
/-- behind a call that answers a known number, a known reference, and changes nothing -/
theorem cq_kIe {x : Int32} (h : cq_V p l e R s m args below meth c D cA X Bs nL cells slots Q pc L (.int x :: st) M) : ∀ (rv : Option Value) (M1 : cq_M), cq_PI (fun r M1 => r = x ∧ M1 = M) rv M1 → cq_V p l e R s m args below meth c D cA X Bs nL cells slots Q pc L (rv.toList ++ st) M1 := by
  intro rv M1 hp
  obtain ⟨r, rfl, rfl, rfl⟩ := hp
  exact h
theorem cq_kRe {x : Nat} (h : cq_V p l e R s m args below meth c D cA X Bs nL cells slots Q pc L (.ref x :: st) M) : ∀ (rv : Option Value) (M1 : cq_M), cq_PR (fun r M1 => r = x ∧ M1 = M) rv M1 → cq_V p l e R s m args below meth c D cA X Bs nL cells slots Q pc L (rv.toList ++ st) M1 := by
  intro rv M1 hp
  obtain ⟨r, rfl, rfl, rfl⟩ := hp
  exact h
/-- what a text's character is -/
theorem cq_ch : ∀ i, i < 7 → ∀ j, j < cq_tl i → (((cq_tb i j &&& 255).toUInt32 % 65536).toInt32 = nI (cq_tb i j).toNatClampNeg) := by decide
theorem cq_ch9 : ∀ i, i < 7 → ∀ j, j < cq_tl i → 0 < (cq_tb i j).toNatClampNeg ∧ (cq_tb i j).toNatClampNeg < 128 := by decide
theorem cq_zc : ∀ {n : Nat}, n < 128 → narrow .char (.int (nI n)) = .int (nI n) := by decide
theorem cq_tl9 : ∀ i, i < 7 → cq_tl i ≤ 5 ∧ 3 ≤ cq_tl i := by decide
end CQS
