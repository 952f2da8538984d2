/-! one row an instruction, over the memory alone (out of a short program) -/
section CQR
variable {p : Program} {l : Launch} {e : Env} {R : Room} {s : State} {m : MethodId} {args : Array Value} {below : List Frame} {meth : Method} {c : Code} {D : va_G} {cA : Nat → ClassId} {X : cq_X} {Bs nL cells slots : Nat} {Q : State → Prop} {cc : ByteArray} {own : String} {Ts : List Cond} {pc : Nat} {L : List (Nat × Value)} {st : List Value} {M : cq_M}
theorem cq_iconst (F : cq_F p s m args meth c D cA Bs nL cc own Ts) {n : Int} {v : Int32} (hdg : decode cc pc = .ok (.iconst n, 1)) (hv : Int32.ofInt n = v) (k : cq_V p l e R s m args below meth c D cA X Bs nL cells slots Q (pc + 1) L (.int v :: st) M) : cq_V p l e R s m args below meth c D cA X Bs nL cells slots Q pc L (st) M := fun H locs ls hH hS hL => lv_iconst F.1.1 F.1.2.1 hdg hv (k H locs ls hH hS hL)
theorem cq_bipush (F : cq_F p s m args meth c D cA Bs nL cc own Ts) {n : Int} {v : Int32} (hdg : decode cc pc = .ok (.bipush n, 2)) (hv : (Int8.ofInt n).toInt32 = v) (k : cq_V p l e R s m args below meth c D cA X Bs nL cells slots Q (pc + 2) L (.int v :: st) M) : cq_V p l e R s m args below meth c D cA X Bs nL cells slots Q pc L (st) M := fun H locs ls hH hS hL => lv_bipush F.1.1 F.1.2.1 hdg hv (k H locs ls hH hS hL)
theorem cq_sipush (F : cq_F p s m args meth c D cA Bs nL cc own Ts) {n : Int} {v : Int32} (hdg : decode cc pc = .ok (.sipush n, 3)) (hv : (Int16.ofInt n).toInt32 = v) (k : cq_V p l e R s m args below meth c D cA X Bs nL cells slots Q (pc + 3) L (.int v :: st) M) : cq_V p l e R s m args below meth c D cA X Bs nL cells slots Q pc L (st) M := fun H locs ls hH hS hL => lv_sipush F.1.1 F.1.2.1 hdg hv (k H locs ls hH hS hL)
theorem cq_iload_n (F : cq_F p s m args meth c D cA Bs nL cc own Ts) {k : Fin 4} {i : Nat} {x : Int32} (hdg : decode cc pc = .ok (.iload_n k, 1)) (hi : (k : Nat) = i) (hx : L.lookup i = some (.int x)) (k : cq_V p l e R s m args below meth c D cA X Bs nL cells slots Q (pc + 1) L (.int x :: st) M) : cq_V p l e R s m args below meth c D cA X Bs nL cells slots Q pc L (st) M := fun H locs ls hH hS hL => lv_iload_n F.1.1 F.1.2.1 hdg hi (hL.at hx) (k H locs ls hH hS hL)
theorem cq_iload (F : cq_F p s m args meth c D cA Bs nL cc own Ts) {i : Nat} {x : Int32} (hdg : decode cc pc = .ok (.iload i, 2)) (hx : L.lookup i = some (.int x)) (k : cq_V p l e R s m args below meth c D cA X Bs nL cells slots Q (pc + 2) L (.int x :: st) M) : cq_V p l e R s m args below meth c D cA X Bs nL cells slots Q pc L (st) M := fun H locs ls hH hS hL => lv_iload F.1.1 F.1.2.1 hdg (hL.at hx) (k H locs ls hH hS hL)
theorem cq_aload_n (F : cq_F p s m args meth c D cA Bs nL cc own Ts) {k : Fin 4} {i : Nat} {x : Nat} (hdg : decode cc pc = .ok (.aload_n k, 1)) (hi : (k : Nat) = i) (hx : L.lookup i = some (.ref x)) (k : cq_V p l e R s m args below meth c D cA X Bs nL cells slots Q (pc + 1) L (.ref x :: st) M) : cq_V p l e R s m args below meth c D cA X Bs nL cells slots Q pc L (st) M := fun H locs ls hH hS hL => lv_aload_n F.1.1 F.1.2.1 hdg hi (hL.at hx) (k H locs ls hH hS hL)
theorem cq_aload (F : cq_F p s m args meth c D cA Bs nL cc own Ts) {i : Nat} {x : Nat} (hdg : decode cc pc = .ok (.aload i, 2)) (hx : L.lookup i = some (.ref x)) (k : cq_V p l e R s m args below meth c D cA X Bs nL cells slots Q (pc + 2) L (.ref x :: st) M) : cq_V p l e R s m args below meth c D cA X Bs nL cells slots Q pc L (st) M := fun H locs ls hH hS hL => lv_aload F.1.1 F.1.2.1 hdg (hL.at hx) (k H locs ls hH hS hL)
theorem cq_iadd (F : cq_F p s m args meth c D cA Bs nL cc own Ts) {x y : Int32} (hdg : decode cc pc = .ok (.iadd, 1))  (k : cq_V p l e R s m args below meth c D cA X Bs nL cells slots Q (pc + 1) L (.int (x + y) :: st) M) : cq_V p l e R s m args below meth c D cA X Bs nL cells slots Q pc L (.int y :: .int x :: st) M := fun H locs ls hH hS hL => lv_iadd F.1.1 F.1.2.1 hdg  (k H locs ls hH hS hL)
theorem cq_isub (F : cq_F p s m args meth c D cA Bs nL cc own Ts) {x y : Int32} (hdg : decode cc pc = .ok (.isub, 1))  (k : cq_V p l e R s m args below meth c D cA X Bs nL cells slots Q (pc + 1) L (.int (x - y) :: st) M) : cq_V p l e R s m args below meth c D cA X Bs nL cells slots Q pc L (.int y :: .int x :: st) M := fun H locs ls hH hS hL => lv_isub F.1.1 F.1.2.1 hdg  (k H locs ls hH hS hL)
theorem cq_imul (F : cq_F p s m args meth c D cA Bs nL cc own Ts) {x y : Int32} (hdg : decode cc pc = .ok (.imul, 1))  (k : cq_V p l e R s m args below meth c D cA X Bs nL cells slots Q (pc + 1) L (.int (x * y) :: st) M) : cq_V p l e R s m args below meth c D cA X Bs nL cells slots Q pc L (.int y :: .int x :: st) M := fun H locs ls hH hS hL => lv_imul F.1.1 F.1.2.1 hdg  (k H locs ls hH hS hL)
theorem cq_iand (F : cq_F p s m args meth c D cA Bs nL cc own Ts) {x y : Int32} (hdg : decode cc pc = .ok (.iand, 1))  (k : cq_V p l e R s m args below meth c D cA X Bs nL cells slots Q (pc + 1) L (.int (x &&& y) :: st) M) : cq_V p l e R s m args below meth c D cA X Bs nL cells slots Q pc L (.int y :: .int x :: st) M := fun H locs ls hH hS hL => lv_iand F.1.1 F.1.2.1 hdg  (k H locs ls hH hS hL)
theorem cq_ior (F : cq_F p s m args meth c D cA Bs nL cc own Ts) {x y : Int32} (hdg : decode cc pc = .ok (.ior, 1))  (k : cq_V p l e R s m args below meth c D cA X Bs nL cells slots Q (pc + 1) L (.int (x ||| y) :: st) M) : cq_V p l e R s m args below meth c D cA X Bs nL cells slots Q pc L (.int y :: .int x :: st) M := fun H locs ls hH hS hL => lv_ior F.1.1 F.1.2.1 hdg  (k H locs ls hH hS hL)
theorem cq_ishl (F : cq_F p s m args meth c D cA Bs nL cc own Ts) {x y : Int32} (hdg : decode cc pc = .ok (.ishl, 1))  (k : cq_V p l e R s m args below meth c D cA X Bs nL cells slots Q (pc + 1) L (.int (x <<< (y &&& 31)) :: st) M) : cq_V p l e R s m args below meth c D cA X Bs nL cells slots Q pc L (.int y :: .int x :: st) M := fun H locs ls hH hS hL => lv_ishl F.1.1 F.1.2.1 hdg  (k H locs ls hH hS hL)
theorem cq_ishr (F : cq_F p s m args meth c D cA Bs nL cc own Ts) {x y : Int32} (hdg : decode cc pc = .ok (.ishr, 1))  (k : cq_V p l e R s m args below meth c D cA X Bs nL cells slots Q (pc + 1) L (.int (x >>> (y &&& 31)) :: st) M) : cq_V p l e R s m args below meth c D cA X Bs nL cells slots Q pc L (.int y :: .int x :: st) M := fun H locs ls hH hS hL => lv_ishr F.1.1 F.1.2.1 hdg  (k H locs ls hH hS hL)
theorem cq_idiv (F : cq_F p s m args meth c D cA Bs nL cc own Ts) {x y : Int32} (hdg : decode cc pc = .ok (.idiv, 1)) (hne : ¬ y = 0) (k : cq_V p l e R s m args below meth c D cA X Bs nL cells slots Q (pc + 1) L (.int (x / y) :: st) M) : cq_V p l e R s m args below meth c D cA X Bs nL cells slots Q pc L (.int y :: .int x :: st) M := fun H locs ls hH hS hL => lv_idiv F.1.1 F.1.2.1 hdg hne (k H locs ls hH hS hL)
theorem cq_irem (F : cq_F p s m args meth c D cA Bs nL cc own Ts) {x y : Int32} (hdg : decode cc pc = .ok (.irem, 1)) (hne : ¬ y = 0) (k : cq_V p l e R s m args below meth c D cA X Bs nL cells slots Q (pc + 1) L (.int (x - x / y * y) :: st) M) : cq_V p l e R s m args below meth c D cA X Bs nL cells slots Q pc L (.int y :: .int x :: st) M := fun H locs ls hH hS hL => lv_irem F.1.1 F.1.2.1 hdg hne (k H locs ls hH hS hL)
theorem cq_dup (F : cq_F p s m args meth c D cA Bs nL cc own Ts) {va : Value} (hdg : decode cc pc = .ok (.dup, 1)) (hva : va.category = 1) (k : cq_V p l e R s m args below meth c D cA X Bs nL cells slots Q (pc + 1) L (va :: va :: st) M) : cq_V p l e R s m args below meth c D cA X Bs nL cells slots Q pc L (va :: st) M := fun H locs ls hH hS hL => lv_dup F.1.1 F.1.2.1 hdg hva (k H locs ls hH hS hL)
theorem cq_pop (F : cq_F p s m args meth c D cA Bs nL cc own Ts) {va : Value} (hdg : decode cc pc = .ok (.pop, 1)) (hva : va.category = 1) (k : cq_V p l e R s m args below meth c D cA X Bs nL cells slots Q (pc + 1) L (st) M) : cq_V p l e R s m args below meth c D cA X Bs nL cells slots Q pc L (va :: st) M := fun H locs ls hH hS hL => lv_pop F.1.1 F.1.2.1 hdg hva (k H locs ls hH hS hL)
theorem cq_dup2 (F : cq_F p s m args meth c D cA Bs nL cc own Ts) {va vb : Value} (hdg : decode cc pc = .ok (.dup2, 1)) (hva : va.category = 1) (hvb : vb.category = 1) (k : cq_V p l e R s m args below meth c D cA X Bs nL cells slots Q (pc + 1) L (va :: vb :: va :: vb :: st) M) : cq_V p l e R s m args below meth c D cA X Bs nL cells slots Q pc L (va :: vb :: st) M := fun H locs ls hH hS hL => lv_dup2_11 F.1.1 F.1.2.1 hdg hva hvb (k H locs ls hH hS hL)
theorem cq_i2l (F : cq_F p s m args meth c D cA Bs nL cc own Ts) {x : Int32} (hdg : decode cc pc = .ok (.i2l, 1))  (k : cq_V p l e R s m args below meth c D cA X Bs nL cells slots Q (pc + 1) L (.long x.toInt64 :: st) M) : cq_V p l e R s m args below meth c D cA X Bs nL cells slots Q pc L (.int x :: st) M := fun H locs ls hH hS hL => lv_i2l F.1.1 F.1.2.1 hdg rfl (k H locs ls hH hS hL)
theorem cq_i2c (F : cq_F p s m args meth c D cA Bs nL cc own Ts) {x : Int32} (hdg : decode cc pc = .ok (.i2c, 1))  (k : cq_V p l e R s m args below meth c D cA X Bs nL cells slots Q (pc + 1) L (.int (x.toUInt32 % 65536).toInt32 :: st) M) : cq_V p l e R s m args below meth c D cA X Bs nL cells slots Q pc L (.int x :: st) M := fun H locs ls hH hS hL => lv_i2c F.1.1 F.1.2.1 hdg rfl (k H locs ls hH hS hL)
theorem cq_i2f (F : cq_F p s m args meth c D cA Bs nL cc own Ts) {x : Int32} (hdg : decode cc pc = .ok (.i2f, 1))  (k : cq_V p l e R s m args below meth c D cA X Bs nL cells slots Q (pc + 1) L (.float (FP.i2f x) :: st) M) : cq_V p l e R s m args below meth c D cA X Bs nL cells slots Q pc L (.int x :: st) M := fun H locs ls hH hS hL => lv_i2f F.1.1 F.1.2.1 hdg  (k H locs ls hH hS hL)
theorem cq_goto (F : cq_F p s m args meth c D cA Bs nL cc own Ts) {off : Int} {tgt : Nat} (hdg : decode cc pc = .ok (.goto off, 3)) (ht : (pc : Int) + off = (tgt : Int)) (k : cq_V p l e R s m args below meth c D cA X Bs nL cells slots Q tgt L (st) M) : cq_V p l e R s m args below meth c D cA X Bs nL cells slots Q pc L (st) M := fun H locs ls hH hS hL => lv_goto F.1.1 F.1.2.1 hdg ht (k H locs ls hH hS hL)
theorem cq_istore_n (F : cq_F p s m args meth c D cA Bs nL cc own Ts) {k : Fin 4} {i : Nat} {x : Int32} (hdg : decode cc pc = .ok (.istore_n k, 1)) (hi : (k : Nat) = i) (hn : i < nL) (k : cq_V p l e R s m args below meth c D cA X Bs nL cells slots Q (pc + 1) ((i, .int x) :: L) st M) : cq_V p l e R s m args below meth c D cA X Bs nL cells slots Q pc L (.int x :: st) M := fun H locs ls hH hS hL => by
  obtain ⟨l9, h1, h2⟩ := hL
  exact lv_istore_n F.1.1 F.1.2.1 hdg hi h1 hn rfl (fun ls2 h3 => k H locs ls2 hH hS (cq_L.put h2 h3 rfl))
theorem cq_istore (F : cq_F p s m args meth c D cA Bs nL cc own Ts) {i : Nat} {x : Int32} (hdg : decode cc pc = .ok (.istore i, 2)) (hn : i < nL) (k : cq_V p l e R s m args below meth c D cA X Bs nL cells slots Q (pc + 2) ((i, .int x) :: L) st M) : cq_V p l e R s m args below meth c D cA X Bs nL cells slots Q pc L (.int x :: st) M := fun H locs ls hH hS hL => by
  obtain ⟨l9, h1, h2⟩ := hL
  exact lv_istore F.1.1 F.1.2.1 hdg h1 hn rfl (fun ls2 h3 => k H locs ls2 hH hS (cq_L.put h2 h3 rfl))
theorem cq_astore_n (F : cq_F p s m args meth c D cA Bs nL cc own Ts) {k : Fin 4} {i : Nat} {x : Nat} (hdg : decode cc pc = .ok (.astore_n k, 1)) (hi : (k : Nat) = i) (hn : i < nL) (k : cq_V p l e R s m args below meth c D cA X Bs nL cells slots Q (pc + 1) ((i, .ref x) :: L) st M) : cq_V p l e R s m args below meth c D cA X Bs nL cells slots Q pc L (.ref x :: st) M := fun H locs ls hH hS hL => by
  obtain ⟨l9, h1, h2⟩ := hL
  exact lv_astore_n F.1.1 F.1.2.1 hdg hi h1 hn rfl (fun ls2 h3 => k H locs ls2 hH hS (cq_L.put h2 h3 rfl))
theorem cq_astore (F : cq_F p s m args meth c D cA Bs nL cc own Ts) {i : Nat} {x : Nat} (hdg : decode cc pc = .ok (.astore i, 2)) (hn : i < nL) (k : cq_V p l e R s m args below meth c D cA X Bs nL cells slots Q (pc + 2) ((i, .ref x) :: L) st M) : cq_V p l e R s m args below meth c D cA X Bs nL cells slots Q pc L (.ref x :: st) M := fun H locs ls hH hS hL => by
  obtain ⟨l9, h1, h2⟩ := hL
  exact lv_astore F.1.1 F.1.2.1 hdg h1 hn rfl (fun ls2 h3 => k H locs ls2 hH hS (cq_L.put h2 h3 rfl))
theorem cq_iinc (F : cq_F p s m args meth c D cA Bs nL cc own Ts) {i : Nat} {n : Int} {x : Int32} (hdg : decode cc pc = .ok (.iinc i n, 3)) (hx : L.lookup i = some (.int x)) (hn : i < nL) (k : ∀ y : Int32, y = x + Int32.ofInt n → cq_V p l e R s m args below meth c D cA X Bs nL cells slots Q (pc + 3) ((i, .int y) :: L) st M) : cq_V p l e R s m args below meth c D cA X Bs nL cells slots Q pc L st M := fun H locs ls hH hS hL => by
  obtain ⟨l9, h1, h2⟩ := hL
  obtain ⟨j, hj⟩ := List.getElem?_of_mem (h2 _ _ hx).1
  exact lv_iinc F.1.1 F.1.2.1 hdg h1 hj rfl hn rfl (fun ls2 h3 => k _ rfl H locs ls2 hH hS (cq_L.put h2 h3 rfl))
theorem cq_nmi {x : Int32} (k : ∀ y : Int32, y = x → cq_V p l e R s m args below meth c D cA X Bs nL cells slots Q pc L (.int y :: st) M) : cq_V p l e R s m args below meth c D cA X Bs nL cells slots Q pc L (.int x :: st) M := k x rfl
theorem cq_nmr {x : Nat} (k : ∀ y : Nat, y = x → cq_V p l e R s m args below meth c D cA X Bs nL cells slots Q pc L (.ref y :: st) M) : cq_V p l e R s m args below meth c D cA X Bs nL cells slots Q pc L (.ref x :: st) M := k x rfl
theorem cq_loc {L2 : List (Nat × Value)} (hl : L2.map (fun q => L.lookup q.1) = L2.map (fun q => some q.2)) (k : cq_V p l e R s m args below meth c D cA X Bs nL cells slots Q pc L2 st M) : cq_V p l e R s m args below meth c D cA X Bs nL cells slots Q pc L st M := fun H locs ls hH hS hL => k H locs ls hH hS (hL.sub (cq_subl hl))
theorem cq_widen {k n : Nat} (h1 : cells ≤ k) (h2 : slots ≤ n) (kk : cq_V p l e R s m args below meth c D cA X Bs nL k n Q pc L st M) : cq_V p l e R s m args below meth c D cA X Bs nL cells slots Q pc L st M := fun H locs ls hH hS hL => W.widen h1 h2 (kk H locs ls hH hS hL)
theorem cq_if_eq (F : cq_F p s m args meth c D cA Bs nL cc own Ts) {x : Int32} {off : Int} {tgt : Nat} (hdg : decode cc pc = .ok (.ifCond .eq off, 3)) (ht : (pc : Int) + off = (tgt : Int)) (kt : x = 0 → cq_V p l e R s m args below meth c D cA X Bs nL cells slots Q tgt L st M) (kf : ¬ x = 0 → cq_V p l e R s m args below meth c D cA X Bs nL cells slots Q (pc + 3) L st M) : cq_V p l e R s m args below meth c D cA X Bs nL cells slots Q pc L (.int x :: st) M := fun H locs ls hH hS hL => lv_if_eq F.1.1 F.1.2.1 hdg ht (fun h => kt h H locs ls hH hS hL) (fun h => kf h H locs ls hH hS hL)
theorem cq_if_ne (F : cq_F p s m args meth c D cA Bs nL cc own Ts) {x : Int32} {off : Int} {tgt : Nat} (hdg : decode cc pc = .ok (.ifCond .ne off, 3)) (ht : (pc : Int) + off = (tgt : Int)) (kt : ¬ x = 0 → cq_V p l e R s m args below meth c D cA X Bs nL cells slots Q tgt L st M) (kf : x = 0 → cq_V p l e R s m args below meth c D cA X Bs nL cells slots Q (pc + 3) L st M) : cq_V p l e R s m args below meth c D cA X Bs nL cells slots Q pc L (.int x :: st) M := fun H locs ls hH hS hL => lv_if_ne F.1.1 F.1.2.1 hdg ht (fun h => kt h H locs ls hH hS hL) (fun h => kf h H locs ls hH hS hL)
theorem cq_if_lt (F : cq_F p s m args meth c D cA Bs nL cc own Ts) {x : Int32} {off : Int} {tgt : Nat} (hdg : decode cc pc = .ok (.ifCond .lt off, 3)) (ht : (pc : Int) + off = (tgt : Int)) (kt : x < 0 → cq_V p l e R s m args below meth c D cA X Bs nL cells slots Q tgt L st M) (kf : ¬ x < 0 → cq_V p l e R s m args below meth c D cA X Bs nL cells slots Q (pc + 3) L st M) : cq_V p l e R s m args below meth c D cA X Bs nL cells slots Q pc L (.int x :: st) M := fun H locs ls hH hS hL => lv_if_lt F.1.1 F.1.2.1 hdg ht (fun h => kt h H locs ls hH hS hL) (fun h => kf h H locs ls hH hS hL)
theorem cq_if_ge (F : cq_F p s m args meth c D cA Bs nL cc own Ts) {x : Int32} {off : Int} {tgt : Nat} (hdg : decode cc pc = .ok (.ifCond .ge off, 3)) (ht : (pc : Int) + off = (tgt : Int)) (kt : 0 ≤ x → cq_V p l e R s m args below meth c D cA X Bs nL cells slots Q tgt L st M) (kf : ¬ 0 ≤ x → cq_V p l e R s m args below meth c D cA X Bs nL cells slots Q (pc + 3) L st M) : cq_V p l e R s m args below meth c D cA X Bs nL cells slots Q pc L (.int x :: st) M := fun H locs ls hH hS hL => lv_if_ge F.1.1 F.1.2.1 hdg ht (fun h => kt h H locs ls hH hS hL) (fun h => kf h H locs ls hH hS hL)
theorem cq_if_gt (F : cq_F p s m args meth c D cA Bs nL cc own Ts) {x : Int32} {off : Int} {tgt : Nat} (hdg : decode cc pc = .ok (.ifCond .gt off, 3)) (ht : (pc : Int) + off = (tgt : Int)) (kt : 0 < x → cq_V p l e R s m args below meth c D cA X Bs nL cells slots Q tgt L st M) (kf : ¬ 0 < x → cq_V p l e R s m args below meth c D cA X Bs nL cells slots Q (pc + 3) L st M) : cq_V p l e R s m args below meth c D cA X Bs nL cells slots Q pc L (.int x :: st) M := fun H locs ls hH hS hL => lv_if_gt F.1.1 F.1.2.1 hdg ht (fun h => kt h H locs ls hH hS hL) (fun h => kf h H locs ls hH hS hL)
theorem cq_if_le (F : cq_F p s m args meth c D cA Bs nL cc own Ts) {x : Int32} {off : Int} {tgt : Nat} (hdg : decode cc pc = .ok (.ifCond .le off, 3)) (ht : (pc : Int) + off = (tgt : Int)) (kt : x ≤ 0 → cq_V p l e R s m args below meth c D cA X Bs nL cells slots Q tgt L st M) (kf : ¬ x ≤ 0 → cq_V p l e R s m args below meth c D cA X Bs nL cells slots Q (pc + 3) L st M) : cq_V p l e R s m args below meth c D cA X Bs nL cells slots Q pc L (.int x :: st) M := fun H locs ls hH hS hL => lv_if_le F.1.1 F.1.2.1 hdg ht (fun h => kt h H locs ls hH hS hL) (fun h => kf h H locs ls hH hS hL)
theorem cq_icmp_eq (F : cq_F p s m args meth c D cA Bs nL cc own Ts) {x y : Int32} {off : Int} {tgt : Nat} (hdg : decode cc pc = .ok (.if_icmp .eq off, 3)) (ht : (pc : Int) + off = (tgt : Int)) (kt : x = y → cq_V p l e R s m args below meth c D cA X Bs nL cells slots Q tgt L st M) (kf : ¬ x = y → cq_V p l e R s m args below meth c D cA X Bs nL cells slots Q (pc + 3) L st M) : cq_V p l e R s m args below meth c D cA X Bs nL cells slots Q pc L (.int y :: .int x :: st) M := fun H locs ls hH hS hL => lv_icmp_eq F.1.1 F.1.2.1 hdg ht (fun h => kt h H locs ls hH hS hL) (fun h => kf h H locs ls hH hS hL)
theorem cq_icmp_ne (F : cq_F p s m args meth c D cA Bs nL cc own Ts) {x y : Int32} {off : Int} {tgt : Nat} (hdg : decode cc pc = .ok (.if_icmp .ne off, 3)) (ht : (pc : Int) + off = (tgt : Int)) (kt : ¬ x = y → cq_V p l e R s m args below meth c D cA X Bs nL cells slots Q tgt L st M) (kf : x = y → cq_V p l e R s m args below meth c D cA X Bs nL cells slots Q (pc + 3) L st M) : cq_V p l e R s m args below meth c D cA X Bs nL cells slots Q pc L (.int y :: .int x :: st) M := fun H locs ls hH hS hL => lv_icmp_ne F.1.1 F.1.2.1 hdg ht (fun h => kt h H locs ls hH hS hL) (fun h => kf h H locs ls hH hS hL)
theorem cq_icmp_lt (F : cq_F p s m args meth c D cA Bs nL cc own Ts) {x y : Int32} {off : Int} {tgt : Nat} (hdg : decode cc pc = .ok (.if_icmp .lt off, 3)) (ht : (pc : Int) + off = (tgt : Int)) (kt : x < y → cq_V p l e R s m args below meth c D cA X Bs nL cells slots Q tgt L st M) (kf : ¬ x < y → cq_V p l e R s m args below meth c D cA X Bs nL cells slots Q (pc + 3) L st M) : cq_V p l e R s m args below meth c D cA X Bs nL cells slots Q pc L (.int y :: .int x :: st) M := fun H locs ls hH hS hL => lv_icmp_lt F.1.1 F.1.2.1 hdg ht (fun h => kt h H locs ls hH hS hL) (fun h => kf h H locs ls hH hS hL)
theorem cq_icmp_ge (F : cq_F p s m args meth c D cA Bs nL cc own Ts) {x y : Int32} {off : Int} {tgt : Nat} (hdg : decode cc pc = .ok (.if_icmp .ge off, 3)) (ht : (pc : Int) + off = (tgt : Int)) (kt : y ≤ x → cq_V p l e R s m args below meth c D cA X Bs nL cells slots Q tgt L st M) (kf : ¬ y ≤ x → cq_V p l e R s m args below meth c D cA X Bs nL cells slots Q (pc + 3) L st M) : cq_V p l e R s m args below meth c D cA X Bs nL cells slots Q pc L (.int y :: .int x :: st) M := fun H locs ls hH hS hL => lv_icmp_ge F.1.1 F.1.2.1 hdg ht (fun h => kt h H locs ls hH hS hL) (fun h => kf h H locs ls hH hS hL)
theorem cq_icmp_gt (F : cq_F p s m args meth c D cA Bs nL cc own Ts) {x y : Int32} {off : Int} {tgt : Nat} (hdg : decode cc pc = .ok (.if_icmp .gt off, 3)) (ht : (pc : Int) + off = (tgt : Int)) (kt : y < x → cq_V p l e R s m args below meth c D cA X Bs nL cells slots Q tgt L st M) (kf : ¬ y < x → cq_V p l e R s m args below meth c D cA X Bs nL cells slots Q (pc + 3) L st M) : cq_V p l e R s m args below meth c D cA X Bs nL cells slots Q pc L (.int y :: .int x :: st) M := fun H locs ls hH hS hL => lv_icmp_gt F.1.1 F.1.2.1 hdg ht (fun h => kt h H locs ls hH hS hL) (fun h => kf h H locs ls hH hS hL)
theorem cq_icmp_le (F : cq_F p s m args meth c D cA Bs nL cc own Ts) {x y : Int32} {off : Int} {tgt : Nat} (hdg : decode cc pc = .ok (.if_icmp .le off, 3)) (ht : (pc : Int) + off = (tgt : Int)) (kt : x ≤ y → cq_V p l e R s m args below meth c D cA X Bs nL cells slots Q tgt L st M) (kf : ¬ x ≤ y → cq_V p l e R s m args below meth c D cA X Bs nL cells slots Q (pc + 3) L st M) : cq_V p l e R s m args below meth c D cA X Bs nL cells slots Q pc L (.int y :: .int x :: st) M := fun H locs ls hH hS hL => lv_icmp_le F.1.1 F.1.2.1 hdg ht (fun h => kt h H locs ls hH hS hL) (fun h => kf h H locs ls hH hS hL)
theorem cq_tableIn (F : cq_F p s m args meth c D cA Bs nL cc own Ts) {dflt lo hi : Int} {offs : Array Int} {len : Nat} {x : Int32} {off : Int} {tgt : Nat} (hdg : decode cc pc = .ok (.tableswitch dflt lo hi offs, len)) (h1 : ¬ x.toInt < lo) (h2 : ¬ hi < x.toInt) (ho : offs[(x.toInt - lo).toNat]? = some off) (ht : (pc : Int) + off = (tgt : Int)) (k : cq_V p l e R s m args below meth c D cA X Bs nL cells slots Q tgt L st M) : cq_V p l e R s m args below meth c D cA X Bs nL cells slots Q pc L (.int x :: st) M := fun H locs ls hH hS hL => lv_tableIn F.1.1 F.1.2.1 hdg h1 h2 ho ht (k H locs ls hH hS hL)
theorem cq_tableOut (F : cq_F p s m args meth c D cA Bs nL cc own Ts) {dflt lo hi : Int} {offs : Array Int} {len : Nat} {x : Int32} {tgt : Nat} (hdg : decode cc pc = .ok (.tableswitch dflt lo hi offs, len)) (h : x.toInt < lo ∨ hi < x.toInt) (ht : (pc : Int) + dflt = (tgt : Int)) (k : cq_V p l e R s m args below meth c D cA X Bs nL cells slots Q tgt L st M) : cq_V p l e R s m args below meth c D cA X Bs nL cells slots Q pc L (.int x :: st) M := fun H locs ls hH hS hL => lv_tableOut F.1.1 F.1.2.1 hdg h ht (k H locs ls hH hS hL)
theorem cq_lookup (F : cq_F p s m args meth c D cA Bs nL cc own Ts) {dflt : Int} {ps : Array (Int × Int)} {len : Nat} {x : Int32} {off : Int} {tgt : Nat} (hdg : decode cc pc = .ok (.lookupswitch dflt ps, len)) (hp : (ps.toList.zip (ps.toList.drop 1)).all (fun (a, next) => a.1 < next.1) = true) (ho : Op.lookupswitch.offset ps.toList dflt x.toInt = off) (ht : (pc : Int) + off = (tgt : Int)) (k : cq_V p l e R s m args below meth c D cA X Bs nL cells slots Q tgt L st M) : cq_V p l e R s m args below meth c D cA X Bs nL cells slots Q pc L (.int x :: st) M := fun H locs ls hH hS hL => lv_lookup F.1.1 F.1.2.1 hdg hp ho ht (k H locs ls hH hS hL)
theorem cq_getI (F : cq_F p s m args meth c D cA Bs nL cc own Ts) {a ci : Nat} {C : String} {T : u_T} {N index : Nat} (ha : X.1 a = ci) (hc : vwCl[ci]? = some (C, T, N)) (h9 : (0 < ci ∧ ci < 10) ∧ cq_N ci = N) (hin : ∀ w ∈ u_ws C T N, w ∈ Ts) (kf : Nat) (hk : kf < N) (hr : cq_r ci kf = false) (hC : (T kf).1 = C) (hlink : (Cond.fieldLink own index C (T kf).2.1 (T kf).2.2.1).before args s = true) (hdg : decode cc pc = .ok (.getfield index, 3)) (k : cq_V p l e R s m args below meth c D cA X Bs nL cells slots Q (pc + 3) L (.int (M a kf) :: st) M) : cq_V p l e R s m args below meth c D cA X Bs nL cells slots Q pc L (.ref a :: st) M := fun H locs ls hH hS hL => by
  have hv : (cq_o X M ci a)[kf]? = some (.int (M a kf)) := by rw [cq_o_at (by rw [h9.2]; exact hk)]; unfold cq_v; rw [hr]
  exact va_get (q0 := 0) F.1.1 F.1.2.1 F.1.2.2.2.2 hin F.1.2.2.2.1 F.2.1 (cq_one (hH.1 a ci ha h9.1.1 h9.1.2)) rfl hc kf hk hlink (fun x hx => by rw [hC] at hx; exact hx) hv hdg (k H locs ls hH hS hL)
theorem cq_getR (F : cq_F p s m args meth c D cA Bs nL cc own Ts) {a ci : Nat} {C : String} {T : u_T} {N index : Nat} (ha : X.1 a = ci) (hc : vwCl[ci]? = some (C, T, N)) (h9 : (0 < ci ∧ ci < 10) ∧ cq_N ci = N) (hin : ∀ w ∈ u_ws C T N, w ∈ Ts) (kf : Nat) (hk : kf < N) (hr : cq_r ci kf = true) (hC : (T kf).1 = C) (hlink : (Cond.fieldLink own index C (T kf).2.1 (T kf).2.2.1).before args s = true) (hdg : decode cc pc = .ok (.getfield index, 3)) (k : cq_V p l e R s m args below meth c D cA X Bs nL cells slots Q (pc + 3) L (.ref (X.2.2 a kf) :: st) M) : cq_V p l e R s m args below meth c D cA X Bs nL cells slots Q pc L (.ref a :: st) M := fun H locs ls hH hS hL => by
  have hv : (cq_o X M ci a)[kf]? = some (.ref (X.2.2 a kf)) := by rw [cq_o_at (by rw [h9.2]; exact hk)]; unfold cq_v; rw [hr]
  exact va_get (q0 := 0) F.1.1 F.1.2.1 F.1.2.2.2.2 hin F.1.2.2.2.1 F.2.1 (cq_one (hH.1 a ci ha h9.1.1 h9.1.2)) rfl hc kf hk hlink (fun x hx => by rw [hC] at hx; exact hx) hv hdg (k H locs ls hH hS hL)
theorem cq_put (F : cq_F p s m args meth c D cA Bs nL cc own Ts) {a ci : Nat} {C : String} {T : u_T} {N index : Nat} (ha : X.1 a = ci) (hc : vwCl[ci]? = some (C, T, N)) (h9 : (0 < ci ∧ ci < 10) ∧ cq_N ci = N) (hin : ∀ w ∈ u_ws C T N, w ∈ Ts) (ty0 : Nat → FieldType) (hty : ∀ k, k < N → parseFieldDescriptor (T k).2.2.1 = some (ty0 k)) (hnm : ∀ a, a < N → ∀ b, b < N → a ≠ b → (T a).2.1 ≠ (T b).2.1) (kf : Nat) (hk : kf < N) (hr : cq_r ci kf = false) (hC : (T kf).1 = C) (hlink : (Cond.fieldLink own index C (T kf).2.1 (T kf).2.2.1).before args s = true) (hfin : (T kf).2.2.2 = false) {x : Int32} (hn : narrow (ty0 kf) (.int x) = .int x) (hfit : fits (ty0 kf) (.int x) = true) (hdg : decode cc pc = .ok (.putfield index, 3)) (k : ∀ M1 : cq_M, M1 = cq_up M a kf x → cq_V p l e R s m args below meth c D cA X Bs nL cells slots Q (pc + 3) L st M1) : cq_V p l e R s m args below meth c D cA X Bs nL cells slots Q pc L (.int x :: .ref a :: st) M := fun H locs ls hH hS hL => by
  have hts := F.1.2.2.2.2
  have hK := F.2.1
  have hap := va_apart (own := own) hts hin ty0 hty hnm hK hc
  obtain ⟨r, h1, cell, q1, q2, q3, q4⟩ := hH.1 a ci ha h9.1.1 h9.1.2
  have hr9 : r = (C, T, N) := Option.some.inj (h1.symm.trans hc)
  subst hr9
  obtain ⟨hSl, hfc, kC, hkC, hkind⟩ := hK.1 ci _ hc
  obtain ⟨cf, kf2, fi, f, hi, hsl⟩ := hSl kf hk
  have hlay := hts _ (hin _ (u_in_lay hk))
  unfold u_lay at hlay
  rw [if_neg (by rw [hfin]; decide)] at hlay
  have hst := (u_facts hfc hkC (u_lays hts hin hk) hi).1
  have h6 := u_store (v := .int x) hfc hkC hkind hlay hi (hty kf hk) hn hfit
  have hsame := hi
  rw [hC] at hsame
  refine W.putK F.1.1 F.1.2.1 (f := f) ⟨F.1.2.2.2.1, hlink, ⟨_, _, _, hsame⟩, hst⟩ (by rw [q2]; exact h6) q1 q3 (by rw [hsl]; exact k2_hasslot (q4 kf hk)) rfl rfl hdg fun H' e1 e2 e3 => ?_
  rw [hsl] at e1 ⊢
  have hv : (cq_o X M ci a).length = N := by unfold cq_o; rw [List.length_map, List.length_range, h9.2]
  refine k _ rfl H' _ ls ⟨fun b cj hb h0 h10 => ?_, fun b t hb => ?_, hH.2.2⟩ (hS.put e2 e3 (hH.2.2 a (by rw [ha]; omega))) hL
  · by_cases hba : b = a
    · subst hba
      obtain rfl : cj = ci := by rw [← hb, ha]
      refine ⟨_, hc, t_OB.to (V := updV (vp_V (cq_o X M cj b)) kf (.int x)) ⟨_, e1, q2, q3, t_set q4 hap hk (.int x)⟩ (fun j hj => ?_)⟩
      show updV (vp_V (cq_o X M cj b)) kf (.int x) j = vp_V (cq_o X (cq_up M b kf x) cj b) j
      have hj1 : j < cq_N cj := by rw [h9.2]; exact hj
      have g1 : vp_V (cq_o X M cj b) j = cq_v X M cj b j := by unfold vp_V; rw [List.getD_eq_getElem?_getD, cq_o_at hj1]; rfl
      have g2 : vp_V (cq_o X (cq_up M b kf x) cj b) j = cq_v X (cq_up M b kf x) cj b j := by unfold vp_V; rw [List.getD_eq_getElem?_getD, cq_o_at hj1]; rfl
      rw [g2]
      by_cases hjk : j = kf
      · subst hjk
        simp [updV, cq_v, hr, cq_up_s]
      · simp only [updV, hjk, if_false, g1]
        unfold cq_v
        rw [cq_up_k hjk]
    · rw [cq_o_ne hba]
      exact (hH.1 b cj hb h0 h10).kept (e3 b hba)
  · have hba : b ≠ a := fun z => by subst z; omega
    rw [cq_up_row hba]
    exact (hH.2.1 b t hb).kept (e3 b hba)
theorem cq_getIN (F : cq_F p s m args meth c D cA Bs nL cc own Ts) {a ci : Nat} {C : String} {T : u_T} {N index : Nat} {host : String} (ha : X.1 a = ci) (hc : vwCl[ci]? = some (C, T, N)) (h9 : (0 < ci ∧ ci < 10) ∧ cq_N ci = N) (hin : ∀ w ∈ u_ws C T N, w ∈ Ts) (kf : Nat) (hk : kf < N) (hr : cq_r ci kf = false) (hC : (T kf).1 = C) (hlink : (Cond.fieldLinkNest own index C (T kf).2.1 (T kf).2.2.1 host).before args s = true) (hdg : decode cc pc = .ok (.getfield index, 3)) (k : cq_V p l e R s m args below meth c D cA X Bs nL cells slots Q (pc + 3) L (.int (M a kf) :: st) M) : cq_V p l e R s m args below meth c D cA X Bs nL cells slots Q pc L (.ref a :: st) M := fun H locs ls hH hS hL => by
  have hv : (cq_o X M ci a)[kf]? = some (.int (M a kf)) := by rw [cq_o_at (by rw [h9.2]; exact hk)]; unfold cq_v; rw [hr]
  exact va_getN (q0 := 0) F.1.1 F.1.2.1 F.1.2.2.2.2 hin F.1.2.2.2.1 F.2.1 (cq_one (hH.1 a ci ha h9.1.1 h9.1.2)) rfl hc kf hk hlink (fun x hx => by rw [hC] at hx; exact hx) hv hdg (k H locs ls hH hS hL)
theorem cq_getRN (F : cq_F p s m args meth c D cA Bs nL cc own Ts) {a ci : Nat} {C : String} {T : u_T} {N index : Nat} {host : String} (ha : X.1 a = ci) (hc : vwCl[ci]? = some (C, T, N)) (h9 : (0 < ci ∧ ci < 10) ∧ cq_N ci = N) (hin : ∀ w ∈ u_ws C T N, w ∈ Ts) (kf : Nat) (hk : kf < N) (hr : cq_r ci kf = true) (hC : (T kf).1 = C) (hlink : (Cond.fieldLinkNest own index C (T kf).2.1 (T kf).2.2.1 host).before args s = true) (hdg : decode cc pc = .ok (.getfield index, 3)) (k : cq_V p l e R s m args below meth c D cA X Bs nL cells slots Q (pc + 3) L (.ref (X.2.2 a kf) :: st) M) : cq_V p l e R s m args below meth c D cA X Bs nL cells slots Q pc L (.ref a :: st) M := fun H locs ls hH hS hL => by
  have hv : (cq_o X M ci a)[kf]? = some (.ref (X.2.2 a kf)) := by rw [cq_o_at (by rw [h9.2]; exact hk)]; unfold cq_v; rw [hr]
  exact va_getN (q0 := 0) F.1.1 F.1.2.1 F.1.2.2.2.2 hin F.1.2.2.2.1 F.2.1 (cq_one (hH.1 a ci ha h9.1.1 h9.1.2)) rfl hc kf hk hlink (fun x hx => by rw [hC] at hx; exact hx) hv hdg (k H locs ls hH hS hL)
theorem cq_putN (F : cq_F p s m args meth c D cA Bs nL cc own Ts) {a ci : Nat} {C : String} {T : u_T} {N index : Nat} {host : String} (ha : X.1 a = ci) (hc : vwCl[ci]? = some (C, T, N)) (h9 : (0 < ci ∧ ci < 10) ∧ cq_N ci = N) (hin : ∀ w ∈ u_ws C T N, w ∈ Ts) (ty0 : Nat → FieldType) (hty : ∀ k, k < N → parseFieldDescriptor (T k).2.2.1 = some (ty0 k)) (hnm : ∀ a, a < N → ∀ b, b < N → a ≠ b → (T a).2.1 ≠ (T b).2.1) (kf : Nat) (hk : kf < N) (hr : cq_r ci kf = false) (hC : (T kf).1 = C) (hlink : (Cond.fieldLinkNest own index C (T kf).2.1 (T kf).2.2.1 host).before args s = true) (hfin : (T kf).2.2.2 = false) {x : Int32} (hn : narrow (ty0 kf) (.int x) = .int x) (hfit : fits (ty0 kf) (.int x) = true) (hdg : decode cc pc = .ok (.putfield index, 3)) (k : ∀ M1 : cq_M, M1 = cq_up M a kf x → cq_V p l e R s m args below meth c D cA X Bs nL cells slots Q (pc + 3) L st M1) : cq_V p l e R s m args below meth c D cA X Bs nL cells slots Q pc L (.int x :: .ref a :: st) M := fun H locs ls hH hS hL => by
  have hts := F.1.2.2.2.2
  have hK := F.2.1
  have hap := va_apart (own := own) hts hin ty0 hty hnm hK hc
  obtain ⟨r, h1, cell, q1, q2, q3, q4⟩ := hH.1 a ci ha h9.1.1 h9.1.2
  have hr9 : r = (C, T, N) := Option.some.inj (h1.symm.trans hc)
  subst hr9
  obtain ⟨hSl, hfc, kC, hkC, hkind⟩ := hK.1 ci _ hc
  obtain ⟨cf, kf2, fi, f, hi, hsl⟩ := hSl kf hk
  have hlay := hts _ (hin _ (u_in_lay hk))
  unfold u_lay at hlay
  rw [if_neg (by rw [hfin]; decide)] at hlay
  have hst := (u_facts hfc hkC (u_lays hts hin hk) hi).1
  have h6 := u_store (v := .int x) hfc hkC hkind hlay hi (hty kf hk) hn hfit
  have hsame := hi
  rw [hC] at hsame
  refine va_WputK F.1.1 F.1.2.1 (f := f) F.1.2.2.2.1 hlink hsame hst (by rw [q2]; exact h6) q1 q3 (by rw [hsl]; exact k2_hasslot (q4 kf hk)) rfl rfl hdg fun H' e1 e2 e3 => ?_
  rw [hsl] at e1 ⊢
  have hv : (cq_o X M ci a).length = N := by unfold cq_o; rw [List.length_map, List.length_range, h9.2]
  refine k _ rfl H' _ ls ⟨fun b cj hb h0 h10 => ?_, fun b t hb => ?_, hH.2.2⟩ (hS.put e2 e3 (hH.2.2 a (by rw [ha]; omega))) hL
  · by_cases hba : b = a
    · subst hba
      obtain rfl : cj = ci := by rw [← hb, ha]
      refine ⟨_, hc, t_OB.to (V := updV (vp_V (cq_o X M cj b)) kf (.int x)) ⟨_, e1, q2, q3, t_set q4 hap hk (.int x)⟩ (fun j hj => ?_)⟩
      show updV (vp_V (cq_o X M cj b)) kf (.int x) j = vp_V (cq_o X (cq_up M b kf x) cj b) j
      have hj1 : j < cq_N cj := by rw [h9.2]; exact hj
      have g1 : vp_V (cq_o X M cj b) j = cq_v X M cj b j := by unfold vp_V; rw [List.getD_eq_getElem?_getD, cq_o_at hj1]; rfl
      have g2 : vp_V (cq_o X (cq_up M b kf x) cj b) j = cq_v X (cq_up M b kf x) cj b j := by unfold vp_V; rw [List.getD_eq_getElem?_getD, cq_o_at hj1]; rfl
      rw [g2]
      by_cases hjk : j = kf
      · subst hjk
        simp [updV, cq_v, hr, cq_up_s]
      · simp only [updV, hjk, if_false, g1]
        unfold cq_v
        rw [cq_up_k hjk]
    · rw [cq_o_ne hba]
      exact (hH.1 b cj hb h0 h10).kept (e3 b hba)
  · have hba : b ≠ a := fun z => by subst z; omega
    rw [cq_up_row hba]
    exact (hH.2.1 b t hb).kept (e3 b hba)
theorem cq_iald (F : cq_F p s m args meth c D cA Bs nL cc own Ts) {a n : Nat} {i : Int32} (ha : X.1 a = 10) (hn : X.2.1 a = n) (hin : vp_in i n) (hdg : decode cc pc = .ok (.iaload, 1)) (k : cq_V p l e R s m args below meth c D cA X Bs nL cells slots Q (pc + 1) L (.int (M a i.toNatClampNeg) :: st) M) : cq_V p l e R s m args below meth c D cA X Bs nL cells slots Q pc L (.int i :: .ref a :: st) M := fun H locs ls hH hS hL => by
  subst hn
  exact va_iald F.1.1 F.1.2.1 F.2.1 (cq_one (hH.2.1 a 0 ha)) 0 0 rfl rfl hin hdg (k H locs ls hH hS hL)
theorem cq_cald (F : cq_F p s m args meth c D cA Bs nL cc own Ts) {a n : Nat} {i : Int32} (ha : X.1 a = 11) (hn : X.2.1 a = n) (hin : vp_in i n) (hdg : decode cc pc = .ok (.caload, 1)) (k : cq_V p l e R s m args below meth c D cA X Bs nL cells slots Q (pc + 1) L (.int (M a i.toNatClampNeg) :: st) M) : cq_V p l e R s m args below meth c D cA X Bs nL cells slots Q pc L (.int i :: .ref a :: st) M := fun H locs ls hH hS hL => by
  subst hn
  exact va_cald F.1.1 F.1.2.1 F.2.1 (cq_one (hH.2.1 a 1 ha)) 0 1 rfl rfl hin hdg (k H locs ls hH hS hL)
theorem cq_zald (F : cq_F p s m args meth c D cA Bs nL cc own Ts) {a n : Nat} {i : Int32} (ha : X.1 a = 12) (hn : X.2.1 a = n) (hin : vp_in i n) (hdg : decode cc pc = .ok (.baload, 1)) (k : cq_V p l e R s m args below meth c D cA X Bs nL cells slots Q (pc + 1) L (.int (M a i.toNatClampNeg) :: st) M) : cq_V p l e R s m args below meth c D cA X Bs nL cells slots Q pc L (.int i :: .ref a :: st) M := fun H locs ls hH hS hL => by
  subst hn
  exact va_zald F.1.1 F.1.2.1 F.2.1 (cq_one (hH.2.1 a 2 ha)) 0 2 rfl rfl hin hdg (k H locs ls hH hS hL)
theorem cq_aaldC (F : cq_F p s m args meth c D cA Bs nL cc own Ts) {a n : Nat} {i : Int32} (ha : X.1 a = 13) (hn : X.2.1 a = n) (hin : vp_in i n) (hdg : decode cc pc = .ok (.aaload, 1)) (k : cq_V p l e R s m args below meth c D cA X Bs nL cells slots Q (pc + 1) L (.ref (X.2.2 a i.toNatClampNeg) :: st) M) : cq_V p l e R s m args below meth c D cA X Bs nL cells slots Q pc L (.int i :: .ref a :: st) M := fun H locs ls hH hS hL => by
  subst hn
  exact va_aldq F.1.1 F.1.2.1 F.2.1 (cq_one (hH.2.1 a 3 ha)) 0 3 rfl rfl hin hdg (k H locs ls hH hS hL)
theorem cq_aaldU (F : cq_F p s m args meth c D cA Bs nL cc own Ts) {a n : Nat} {i : Int32} (ha : X.1 a = 14) (hn : X.2.1 a = n) (hin : vp_in i n) (hdg : decode cc pc = .ok (.aaload, 1)) (k : cq_V p l e R s m args below meth c D cA X Bs nL cells slots Q (pc + 1) L (.ref (X.2.2 a i.toNatClampNeg) :: st) M) : cq_V p l e R s m args below meth c D cA X Bs nL cells slots Q pc L (.int i :: .ref a :: st) M := fun H locs ls hH hS hL => by
  subst hn
  exact va_aldq F.1.1 F.1.2.1 F.2.1 (cq_one (hH.2.1 a 4 ha)) 0 4 rfl rfl hin hdg (k H locs ls hH hS hL)
theorem cq_aaldS (F : cq_F p s m args meth c D cA Bs nL cc own Ts) {a n : Nat} {i : Int32} (ha : X.1 a = 15) (hn : X.2.1 a = n) (hin : vp_in i n) (hdg : decode cc pc = .ok (.aaload, 1)) (k : cq_V p l e R s m args below meth c D cA X Bs nL cells slots Q (pc + 1) L (.ref (X.2.2 a i.toNatClampNeg) :: st) M) : cq_V p l e R s m args below meth c D cA X Bs nL cells slots Q pc L (.int i :: .ref a :: st) M := fun H locs ls hH hS hL => by
  subst hn
  exact va_aldq F.1.1 F.1.2.1 F.2.1 (cq_one (hH.2.1 a 5 ha)) 0 5 rfl rfl hin hdg (k H locs ls hH hS hL)
theorem cq_aaldA (F : cq_F p s m args meth c D cA Bs nL cc own Ts) {a n : Nat} {i : Int32} (ha : X.1 a = 16) (hn : X.2.1 a = n) (hin : vp_in i n) (hdg : decode cc pc = .ok (.aaload, 1)) (k : cq_V p l e R s m args below meth c D cA X Bs nL cells slots Q (pc + 1) L (.ref (X.2.2 a i.toNatClampNeg) :: st) M) : cq_V p l e R s m args below meth c D cA X Bs nL cells slots Q pc L (.int i :: .ref a :: st) M := fun H locs ls hH hS hL => by
  subst hn
  have hlt : i.toNatClampNeg < X.2.1 a := Nat.not_le.mp fun q => hin (Or.inr q)
  have hP := cq_one (hH.2.1 a 6 ha)
  have h5 : (arrV (cA 6) (X.2.1 a) (fun j => va_rf (some (X.2.2 a j)))).slots[i.toNatClampNeg]? = some (va_rf (some (X.2.2 a i.toNatClampNeg))) := arrV_read _ _ hlt
  exact W.aald (v := .ref (X.2.2 a i.toNatClampNeg)) (ty := .array .int) F.1.1 F.1.2.1 (hP 0 _ rfl) ((F.2.1.2 6 _ rfl).1 (X.2.1 a) (fun j => va_rf (some (X.2.2 a j)))) rfl (fun q => by cases q) (by show ¬ (i < 0 ∨ (arrV _ _ _).slots.size ≤ _); rw [arrV_size]; exact hin) h5 rfl rfl hdg (k H locs ls hH hS hL)
theorem cq_iast (F : cq_F p s m args meth c D cA Bs nL cc own Ts) {a n : Nat} {i x : Int32} (ha : X.1 a = 10) (hn : X.2.1 a = n) (hin : vp_in i n) (hdg : decode cc pc = .ok (.iastore, 1)) (k : ∀ M1 : cq_M, M1 = cq_up M a i.toNatClampNeg x → cq_V p l e R s m args below meth c D cA X Bs nL cells slots Q (pc + 1) L st M1) : cq_V p l e R s m args below meth c D cA X Bs nL cells slots Q pc L (.int x :: .int i :: .ref a :: st) M := fun H locs ls hH hS hL => by
  subst hn
  have hlt : i.toNatClampNeg < X.2.1 a := Nat.not_le.mp fun q => hin (Or.inr q)
  refine W.iast F.1.1 F.1.2.1 (hH.2.1 a 0 ha) ((F.2.1.2 0 _ rfl).1 (X.2.1 a) (fun j => .int (M a j))) (fun q => by cases q) (by show ¬ (i < 0 ∨ (arrV _ _ _).slots.size ≤ _); rw [arrV_size]; exact hin) rfl rfl hdg fun H1 e1 e2 e3 => ?_
  refine k _ rfl H1 _ ls ⟨fun b cj hb h0 h10 => ?_, fun b t hb => ?_, hH.2.2⟩ (hS.put e2 e3 (hH.2.2 a (by rw [ha]; omega))) hL
  · have hba : b ≠ a := fun z => by subst z; omega
    rw [cq_o_ne hba]
    exact (hH.1 b cj hb h0 h10).kept (e3 b hba)
  · by_cases hba : b = a
    · subst hba
      obtain rfl : t = 0 := by omega
      show H1[b]? = some (vp_cell (cA 0) (X.2.1 b, .inl (cq_up M b i.toNatClampNeg x b)))
      rw [e1, cq_up_self]
      show some ((vp_cell (cA 0) (X.2.1 b, .inl (M b))).setSlot _ _) = _
      rw [vp_cell_i, vp_cell_i, arrV_store]
      congr 2
      funext q
      by_cases hq : q = i.toNatClampNeg
      · subst hq
        simp [updV, upd]
        try rfl
      · simp [updV, upd, hq]
    · rw [cq_up_row hba]
      exact (hH.2.1 b t hb).kept (e3 b hba)
theorem cq_cast (F : cq_F p s m args meth c D cA Bs nL cc own Ts) {a n : Nat} {i x : Int32} (ha : X.1 a = 11) (hn : X.2.1 a = n) (hin : vp_in i n) (hdg : decode cc pc = .ok (.castore, 1)) (k : ∀ M1 : cq_M, M1 = cq_up M a i.toNatClampNeg (vp_nar .char x) → cq_V p l e R s m args below meth c D cA X Bs nL cells slots Q (pc + 1) L st M1) : cq_V p l e R s m args below meth c D cA X Bs nL cells slots Q pc L (.int x :: .int i :: .ref a :: st) M := fun H locs ls hH hS hL => by
  subst hn
  have hlt : i.toNatClampNeg < X.2.1 a := Nat.not_le.mp fun q => hin (Or.inr q)
  refine W.cast F.1.1 F.1.2.1 (hH.2.1 a 1 ha) ((F.2.1.2 1 _ rfl).1 (X.2.1 a) (fun j => .int (M a j))) (fun q => by cases q) (by show ¬ (i < 0 ∨ (arrV _ _ _).slots.size ≤ _); rw [arrV_size]; exact hin) rfl rfl hdg fun H1 e1 e2 e3 => ?_
  refine k _ rfl H1 _ ls ⟨fun b cj hb h0 h10 => ?_, fun b t hb => ?_, hH.2.2⟩ (hS.put e2 e3 (hH.2.2 a (by rw [ha]; omega))) hL
  · have hba : b ≠ a := fun z => by subst z; omega
    rw [cq_o_ne hba]
    exact (hH.1 b cj hb h0 h10).kept (e3 b hba)
  · by_cases hba : b = a
    · subst hba
      obtain rfl : t = 1 := by omega
      show H1[b]? = some (vp_cell (cA 1) (X.2.1 b, .inl (cq_up M b i.toNatClampNeg (vp_nar .char x) b)))
      rw [e1, cq_up_self]
      show some ((vp_cell (cA 1) (X.2.1 b, .inl (M b))).setSlot _ _) = _
      rw [vp_cell_i, vp_cell_i, arrV_store]
      congr 2
      funext q
      by_cases hq : q = i.toNatClampNeg
      · subst hq
        simp [updV, upd, vp_nar]
        try rfl
      · simp [updV, upd, hq]
    · rw [cq_up_row hba]
      exact (hH.2.1 b t hb).kept (e3 b hba)
theorem cq_zast (F : cq_F p s m args meth c D cA Bs nL cc own Ts) {a n : Nat} {i x : Int32} (ha : X.1 a = 12) (hn : X.2.1 a = n) (hin : vp_in i n) (hdg : decode cc pc = .ok (.bastore, 1)) (k : ∀ M1 : cq_M, M1 = cq_up M a i.toNatClampNeg (vp_nar .boolean x) → cq_V p l e R s m args below meth c D cA X Bs nL cells slots Q (pc + 1) L st M1) : cq_V p l e R s m args below meth c D cA X Bs nL cells slots Q pc L (.int x :: .int i :: .ref a :: st) M := fun H locs ls hH hS hL => by
  subst hn
  have hlt : i.toNatClampNeg < X.2.1 a := Nat.not_le.mp fun q => hin (Or.inr q)
  refine W.zast F.1.1 F.1.2.1 (hH.2.1 a 2 ha) ((F.2.1.2 2 _ rfl).1 (X.2.1 a) (fun j => .int (M a j))) (fun q => by cases q) (by show ¬ (i < 0 ∨ (arrV _ _ _).slots.size ≤ _); rw [arrV_size]; exact hin) rfl rfl hdg fun H1 e1 e2 e3 => ?_
  refine k _ rfl H1 _ ls ⟨fun b cj hb h0 h10 => ?_, fun b t hb => ?_, hH.2.2⟩ (hS.put e2 e3 (hH.2.2 a (by rw [ha]; omega))) hL
  · have hba : b ≠ a := fun z => by subst z; omega
    rw [cq_o_ne hba]
    exact (hH.1 b cj hb h0 h10).kept (e3 b hba)
  · by_cases hba : b = a
    · subst hba
      obtain rfl : t = 2 := by omega
      show H1[b]? = some (vp_cell (cA 2) (X.2.1 b, .inl (cq_up M b i.toNatClampNeg (vp_nar .boolean x) b)))
      rw [e1, cq_up_self]
      show some ((vp_cell (cA 2) (X.2.1 b, .inl (M b))).setSlot _ _) = _
      rw [vp_cell_i, vp_cell_i, arrV_store]
      congr 2
      funext q
      by_cases hq : q = i.toNatClampNeg
      · subst hq
        simp [updV, upd, vp_nar]
        try rfl
      · simp [updV, upd, hq]
    · rw [cq_up_row hba]
      exact (hH.2.1 b t hb).kept (e3 b hba)
theorem cq_iret (F : cq_F p s m args meth c D cA Bs nL cc own Ts) {v : Int32} {Post : Option Value → cq_M → Prop} {mc ms : Nat} (hr : meth.sig.returnType = some .int) (hc : cells ≤ mc) (hs : slots ≤ ms) (hdg : decode cc pc = .ok (.ireturn, 1)) (hp : Post (some (.int v)) M) : cq_V p l e R s m args below meth c D cA X Bs nL cells slots (MQ below (cq_Q D cA X Bs Post) args s mc ms (cq_A Bs)) pc L [.int v] M := fun H locs ls hH hS hL => by
  have hlocks := F.2.2.1
  refine W.widen hc hs ?_
  exact W.iret F.1.1 F.1.2.1 hr (fun t ht hW => ⟨⟨_, M, rfl, hp, by rw [ht]; exact hH⟩, hS.F ht⟩) hS.2.2 hdg hlocks
theorem cq_zret (F : cq_F p s m args meth c D cA Bs nL cc own Ts) {v : Int32} {Post : Option Value → cq_M → Prop} {mc ms : Nat} {ty : FieldType} (hr : meth.sig.returnType = some ty) (hn : narrow ty (.int v) = .int v) (hc : cells ≤ mc) (hs : slots ≤ ms) (hdg : decode cc pc = .ok (.ireturn, 1)) (hp : Post (some (.int v)) M) : cq_V p l e R s m args below meth c D cA X Bs nL cells slots (MQ below (cq_Q D cA X Bs Post) args s mc ms (cq_A Bs)) pc L [.int v] M := fun H locs ls hH hS hL => by
  have hlocks := F.2.2.1
  refine W.widen hc hs ?_
  exact W.zret F.1.1 F.1.2.1 hr hn (fun t ht hW => ⟨⟨_, M, rfl, hp, by rw [ht]; exact hH⟩, hS.F ht⟩) hS.2.2 hdg hlocks
theorem cq_vret (F : cq_F p s m args meth c D cA Bs nL cc own Ts) {Post : Option Value → cq_M → Prop} {mc ms : Nat} (hr : meth.sig.returnType = none) (hc : cells ≤ mc) (hs : slots ≤ ms) (hdg : decode cc pc = .ok (.return_, 1)) (hp : Post none M) : cq_V p l e R s m args below meth c D cA X Bs nL cells slots (MQ below (cq_Q D cA X Bs Post) args s mc ms (cq_A Bs)) pc L [] M := fun H locs ls hH hS hL => by
  have hlocks := F.2.2.1
  refine W.widen hc hs ?_
  exact W.vret F.1.1 F.1.2.1 hr (fun t ht hW => ⟨⟨_, M, rfl, hp, by rw [ht]; exact hH⟩, hS.F ht⟩) hS.2.2 hdg hlocks
theorem cq_aret (F : cq_F p s m args meth c D cA Bs nL cc own Ts) {a : Nat} {rt : FieldType} {Post : Option Value → cq_M → Prop} {mc ms : Nat} (hr : meth.sig.returnType = some rt) (hrt : (∃ n, rt = .object n) ∨ ∃ t, rt = .array t) (hc : cells ≤ mc) (hs : slots ≤ ms) (hdg : decode cc pc = .ok (.areturn, 1)) (hp : Post (some (.ref a)) M) : cq_V p l e R s m args below meth c D cA X Bs nL cells slots (MQ below (cq_Q D cA X Bs Post) args s mc ms (cq_A Bs)) pc L [.ref a] M := fun H locs ls hH hS hL => by
  have hlocks := F.2.2.1
  refine W.widen hc hs ?_
  exact W.aret F.1.1 F.1.2.1 hr hrt (Or.inr ⟨a, rfl⟩) (fun t ht hW => ⟨⟨_, M, rfl, hp, by rw [ht]; exact hH⟩, hS.F ht⟩) hS.2.2 hdg hlocks
theorem cq_back {mc ms : Nat} {st0 rest : List Value} {a : Array Value} {Post : Option Value → cq_M → Prop} (F : cq_F p s m args meth c D cA Bs nL cc own Ts) {H : Heap} {locs : List Loc} {ls : Array Slot} (hS : va_S (cq_A Bs) s.heap H locs) (hL : cq_L ls nL L) (hr : va_Run p l e R s m args below meth c H locs cells slots mc ms (F0 m pc ls st0) rest (cq_Q D cA X Bs Post a) (cq_A Bs)) (k : ∀ (rv : Option Value) (M1 : cq_M), Post rv M1 → cq_V p l e R s m args below meth c D cA X Bs nL (cells + mc) (slots + ms) Q (pc + 3) L (rv.toList ++ rest) M1) : W p l e R s m args below meth c H locs cells slots Q (F0 m pc ls st0) := by
  intro T hT X9
  obtain ⟨v, st₀, t, T', L9, h0, X', hL9, e1, e2, ⟨⟨rv, M1, hv, hp, hH1⟩, hz, hk⟩, go⟩ := hr T hT X9
  cases hv
  rw [h0] at hz hk
  have hS1 : va_S (cq_A Bs) s.heap T'.heap (locs ++ L9) := by
    refine ⟨by rw [e1]; exact Nat.le_trans hS.1 hz, fun q h1 h2 => ?_, fun q hq => ?_⟩
    · rw [e1, hk q (Nat.lt_of_lt_of_le h1 hS.1) h2]
      exact hS.2.1 q h1 h2
    · rcases List.mem_append.mp hq with h | h
      · exact hS.2.2 q h
      · exact hL9 q h
  obtain ⟨t2, a1, b1⟩ := k v M1 hp T'.heap (locs ++ L9) ls (by rw [e1]; exact hH1) hS1 hL T' rfl X'
  exact ⟨t2, go t2 a1, b1⟩
theorem cq_callV (F : cq_F p s m args meth c D cA Bs nL cc own Ts) {y : MethodName} {bytes : ByteArray} {maxL mc ms n index : Nat} {ret : Option FieldType} {ws : List Cond} {rm : Room} {Post : Option Value → cq_M → Prop} {C : String} {b ci : Nat} {q9 : vw_C} {As : List Value} (hM : cq_C l y ws rm D cA X Bs (.ref b :: As) M Post mc ms) (cw : CallW R s args own C index y bytes maxL ret ws rm mc ms n) (hb : X.1 b = ci) (h9 : 0 < ci ∧ ci < 10) (hc : vwCl[ci]? = some q9) (hC : q9.1 = C) (hn : As.length = n) (hW : (st.map fun v => v.category).sum ≤ 8) (hdg : decode cc pc = .ok (.invokevirtual index, 3)) (hf : cells + mc ≤ R.cells ∧ slots + ms ≤ R.slots) (k : ∀ (rv : Option Value) (M1 : cq_M), Post rv M1 → cq_V p l e R s m args below meth c D cA X Bs nL (cells + mc) (slots + ms) Q (pc + 3) L (rv.toList ++ st) M1) : cq_V p l e R s m args below meth c D cA X Bs nL cells slots Q pc L (As.reverse ++ .ref b :: st) M := fun H locs ls hH hS hL => by
  subst hC
  exact cq_back F hS hL (va_runV (As := As) (rest := st) F.1 hM cw ⟨cq_blind, va_recv F.2.1 (cq_one (hH.1 b ci hb h9.1 h9.2)) hc (q0 := 0) rfl, fun U hU hW2 => ⟨rfl, by rw [hU]; exact hH, va_K.moved hW2.alike F.2.1, by rw [hU]; exact Nat.le_trans F.2.2.2.1 hS.1, F.2.2.2.2.go hW2 (fun a h1 h2 => by rw [hU]; exact hS.2.1 a h1 h2)⟩⟩ rfl hn hL.size rfl (lv_room hW) hdg hf) k
theorem cq_callVN (F : cq_F p s m args meth c D cA Bs nL cc own Ts) {y : MethodName} {bytes : ByteArray} {maxL mc ms n index : Nat} {ret : Option FieldType} {ws : List Cond} {rm : Room} {Post : Option Value → cq_M → Prop} {C : String} {host : String} {b ci : Nat} {q9 : vw_C} {As : List Value} (hM : cq_C l y ws rm D cA X Bs (.ref b :: As) M Post mc ms) (cw : va_CN R s args own index y host bytes maxL ret ws rm mc ms n ∧ (Cond.instanceMethod y).before args s = true ∧ (Cond.selects C y y).before args s = true) (hb : X.1 b = ci) (h9 : 0 < ci ∧ ci < 10) (hc : vwCl[ci]? = some q9) (hC : q9.1 = C) (hn : As.length = n) (hW : (st.map fun v => v.category).sum ≤ 8) (hdg : decode cc pc = .ok (.invokevirtual index, 3)) (hf : cells + mc ≤ R.cells ∧ slots + ms ≤ R.slots) (k : ∀ (rv : Option Value) (M1 : cq_M), Post rv M1 → cq_V p l e R s m args below meth c D cA X Bs nL (cells + mc) (slots + ms) Q (pc + 3) L (rv.toList ++ st) M1) : cq_V p l e R s m args below meth c D cA X Bs nL cells slots Q pc L (As.reverse ++ .ref b :: st) M := fun H locs ls hH hS hL => by
  subst hC
  exact cq_back F hS hL (va_runVN (As := As) (rest := st) F.1 hM cw ⟨cq_blind, va_recv F.2.1 (cq_one (hH.1 b ci hb h9.1 h9.2)) hc (q0 := 0) rfl, fun U hU hW2 => ⟨rfl, by rw [hU]; exact hH, va_K.moved hW2.alike F.2.1, by rw [hU]; exact Nat.le_trans F.2.2.2.1 hS.1, F.2.2.2.2.go hW2 (fun a h1 h2 => by rw [hU]; exact hS.2.1 a h1 h2)⟩⟩ rfl hn hL.size rfl (lv_room hW) hdg hf) k
theorem cq_callS (F : cq_F p s m args meth c D cA Bs nL cc own Ts) {y : MethodName} {bytes : ByteArray} {maxL mc ms n index : Nat} {ret : Option FieldType} {ws : List Cond} {rm : Room} {Post : Option Value → cq_M → Prop} {As : List Value} (hM : cq_C l y ws rm D cA X Bs As M Post mc ms) (cw : CallB R s args own index y bytes maxL ret ws rm mc ms n ∧ (Cond.static y).before args s = true) (hn : As.length = n) (hW : (st.map fun v => v.category).sum ≤ 8) (hdg : decode cc pc = .ok (.invokestatic index, 3)) (hf : cells + mc ≤ R.cells ∧ slots + ms ≤ R.slots) (k : ∀ (rv : Option Value) (M1 : cq_M), Post rv M1 → cq_V p l e R s m args below meth c D cA X Bs nL (cells + mc) (slots + ms) Q (pc + 3) L (rv.toList ++ st) M1) : cq_V p l e R s m args below meth c D cA X Bs nL cells slots Q pc L (As.reverse ++ st) M := fun H locs ls hH hS hL => by
  exact cq_back F hS hL (va_runS (As := As) (rest := st) F.1 hM cw ⟨cq_blind, fun U hU hW2 => ⟨rfl, by rw [hU]; exact hH, va_K.moved hW2.alike F.2.1, by rw [hU]; exact Nat.le_trans F.2.2.2.1 hS.1, F.2.2.2.2.go hW2 (fun a h1 h2 => by rw [hU]; exact hS.2.1 a h1 h2)⟩⟩ rfl hn hL.size rfl (lv_room hW) hdg hf) k
theorem cq_callSN (F : cq_F p s m args meth c D cA Bs nL cc own Ts) {y : MethodName} {bytes : ByteArray} {maxL mc ms n index : Nat} {ret : Option FieldType} {ws : List Cond} {rm : Room} {Post : Option Value → cq_M → Prop} {host : String} {As : List Value} (hM : cq_C l y ws rm D cA X Bs As M Post mc ms) (cw : va_CN R s args own index y host bytes maxL ret ws rm mc ms n ∧ (Cond.static y).before args s = true ∧ True) (hn : As.length = n) (hW : (st.map fun v => v.category).sum ≤ 8) (hdg : decode cc pc = .ok (.invokestatic index, 3)) (hf : cells + mc ≤ R.cells ∧ slots + ms ≤ R.slots) (k : ∀ (rv : Option Value) (M1 : cq_M), Post rv M1 → cq_V p l e R s m args below meth c D cA X Bs nL (cells + mc) (slots + ms) Q (pc + 3) L (rv.toList ++ st) M1) : cq_V p l e R s m args below meth c D cA X Bs nL cells slots Q pc L (As.reverse ++ st) M := fun H locs ls hH hS hL => by
  exact cq_back F hS hL (va_runSN (As := As) (rest := st) F.1 hM cw ⟨cq_blind, fun U hU hW2 => ⟨rfl, by rw [hU]; exact hH, va_K.moved hW2.alike F.2.1, by rw [hU]; exact Nat.le_trans F.2.2.2.1 hS.1, F.2.2.2.2.go hW2 (fun a h1 h2 => by rw [hU]; exact hS.2.1 a h1 h2)⟩⟩ rfl hn hL.size rfl (lv_room hW) hdg hf) k
theorem cq_iald_j (F : cq_F p s m args meth c D cA Bs nL cc own Ts) {a n j : Nat} {i : Int32} (ha : X.1 a = 10) (hn : X.2.1 a = n) (hi : i = nI j) (hj : j < n ∧ n < 2147483648) (hdg : decode cc pc = .ok (.iaload, 1)) (k : cq_V p l e R s m args below meth c D cA X Bs nL cells slots Q (pc + 1) L (.int (M a j) :: st) M) : cq_V p l e R s m args below meth c D cA X Bs nL cells slots Q pc L (.int i :: .ref a :: st) M := by
  subst hi
  refine cq_iald F ha hn (vp_in_nI hj.1 hj.2) hdg ?_
  rw [nI_clamp (Nat.lt_trans hj.1 hj.2)]
  exact k
theorem cq_cald_j (F : cq_F p s m args meth c D cA Bs nL cc own Ts) {a n j : Nat} {i : Int32} (ha : X.1 a = 11) (hn : X.2.1 a = n) (hi : i = nI j) (hj : j < n ∧ n < 2147483648) (hdg : decode cc pc = .ok (.caload, 1)) (k : cq_V p l e R s m args below meth c D cA X Bs nL cells slots Q (pc + 1) L (.int (M a j) :: st) M) : cq_V p l e R s m args below meth c D cA X Bs nL cells slots Q pc L (.int i :: .ref a :: st) M := by
  subst hi
  refine cq_cald F ha hn (vp_in_nI hj.1 hj.2) hdg ?_
  rw [nI_clamp (Nat.lt_trans hj.1 hj.2)]
  exact k
theorem cq_zald_j (F : cq_F p s m args meth c D cA Bs nL cc own Ts) {a n j : Nat} {i : Int32} (ha : X.1 a = 12) (hn : X.2.1 a = n) (hi : i = nI j) (hj : j < n ∧ n < 2147483648) (hdg : decode cc pc = .ok (.baload, 1)) (k : cq_V p l e R s m args below meth c D cA X Bs nL cells slots Q (pc + 1) L (.int (M a j) :: st) M) : cq_V p l e R s m args below meth c D cA X Bs nL cells slots Q pc L (.int i :: .ref a :: st) M := by
  subst hi
  refine cq_zald F ha hn (vp_in_nI hj.1 hj.2) hdg ?_
  rw [nI_clamp (Nat.lt_trans hj.1 hj.2)]
  exact k
theorem cq_iast_j (F : cq_F p s m args meth c D cA Bs nL cc own Ts) {a n j : Nat} {i x : Int32} (ha : X.1 a = 10) (hn : X.2.1 a = n) (hi : i = nI j) (hj : j < n ∧ n < 2147483648) (hdg : decode cc pc = .ok (.iastore, 1)) (k : ∀ M1 : cq_M, M1 = cq_up M a j x → cq_V p l e R s m args below meth c D cA X Bs nL cells slots Q (pc + 1) L st M1) : cq_V p l e R s m args below meth c D cA X Bs nL cells slots Q pc L (.int x :: .int i :: .ref a :: st) M := by
  subst hi
  refine cq_iast F ha hn (vp_in_nI hj.1 hj.2) hdg ?_
  rw [nI_clamp (Nat.lt_trans hj.1 hj.2)]
  exact k
theorem cq_cast_j (F : cq_F p s m args meth c D cA Bs nL cc own Ts) {a n j : Nat} {i x : Int32} (ha : X.1 a = 11) (hn : X.2.1 a = n) (hi : i = nI j) (hj : j < n ∧ n < 2147483648) (hdg : decode cc pc = .ok (.castore, 1)) (k : ∀ M1 : cq_M, M1 = cq_up M a j (vp_nar .char x) → cq_V p l e R s m args below meth c D cA X Bs nL cells slots Q (pc + 1) L st M1) : cq_V p l e R s m args below meth c D cA X Bs nL cells slots Q pc L (.int x :: .int i :: .ref a :: st) M := by
  subst hi
  refine cq_cast F ha hn (vp_in_nI hj.1 hj.2) hdg ?_
  rw [nI_clamp (Nat.lt_trans hj.1 hj.2)]
  exact k
theorem cq_zast_j (F : cq_F p s m args meth c D cA Bs nL cc own Ts) {a n j : Nat} {i x : Int32} (ha : X.1 a = 12) (hn : X.2.1 a = n) (hi : i = nI j) (hj : j < n ∧ n < 2147483648) (hdg : decode cc pc = .ok (.bastore, 1)) (k : ∀ M1 : cq_M, M1 = cq_up M a j (vp_nar .boolean x) → cq_V p l e R s m args below meth c D cA X Bs nL cells slots Q (pc + 1) L st M1) : cq_V p l e R s m args below meth c D cA X Bs nL cells slots Q pc L (.int x :: .int i :: .ref a :: st) M := by
  subst hi
  refine cq_zast F ha hn (vp_in_nI hj.1 hj.2) hdg ?_
  rw [nI_clamp (Nat.lt_trans hj.1 hj.2)]
  exact k
theorem cq_aaldC_j (F : cq_F p s m args meth c D cA Bs nL cc own Ts) {a n j t : Nat} {i : Int32} (ha : X.1 a = 13) (hn : X.2.1 a = n) (hi : i = nI j) (hj : j < n ∧ n < 2147483648) (ht : X.2.2 a j = t) (hdg : decode cc pc = .ok (.aaload, 1)) (k : cq_V p l e R s m args below meth c D cA X Bs nL cells slots Q (pc + 1) L (.ref t :: st) M) : cq_V p l e R s m args below meth c D cA X Bs nL cells slots Q pc L (.int i :: .ref a :: st) M := by
  subst hi
  subst ht
  refine cq_aaldC F ha hn (vp_in_nI hj.1 hj.2) hdg ?_
  rw [nI_clamp (Nat.lt_trans hj.1 hj.2)]
  exact k
theorem cq_aaldU_j (F : cq_F p s m args meth c D cA Bs nL cc own Ts) {a n j t : Nat} {i : Int32} (ha : X.1 a = 14) (hn : X.2.1 a = n) (hi : i = nI j) (hj : j < n ∧ n < 2147483648) (ht : X.2.2 a j = t) (hdg : decode cc pc = .ok (.aaload, 1)) (k : cq_V p l e R s m args below meth c D cA X Bs nL cells slots Q (pc + 1) L (.ref t :: st) M) : cq_V p l e R s m args below meth c D cA X Bs nL cells slots Q pc L (.int i :: .ref a :: st) M := by
  subst hi
  subst ht
  refine cq_aaldU F ha hn (vp_in_nI hj.1 hj.2) hdg ?_
  rw [nI_clamp (Nat.lt_trans hj.1 hj.2)]
  exact k
theorem cq_aaldS_j (F : cq_F p s m args meth c D cA Bs nL cc own Ts) {a n j t : Nat} {i : Int32} (ha : X.1 a = 15) (hn : X.2.1 a = n) (hi : i = nI j) (hj : j < n ∧ n < 2147483648) (ht : X.2.2 a j = t) (hdg : decode cc pc = .ok (.aaload, 1)) (k : cq_V p l e R s m args below meth c D cA X Bs nL cells slots Q (pc + 1) L (.ref t :: st) M) : cq_V p l e R s m args below meth c D cA X Bs nL cells slots Q pc L (.int i :: .ref a :: st) M := by
  subst hi
  subst ht
  refine cq_aaldS F ha hn (vp_in_nI hj.1 hj.2) hdg ?_
  rw [nI_clamp (Nat.lt_trans hj.1 hj.2)]
  exact k
theorem cq_aaldA_j (F : cq_F p s m args meth c D cA Bs nL cc own Ts) {a n j t : Nat} {i : Int32} (ha : X.1 a = 16) (hn : X.2.1 a = n) (hi : i = nI j) (hj : j < n ∧ n < 2147483648) (ht : X.2.2 a j = t) (hdg : decode cc pc = .ok (.aaload, 1)) (k : cq_V p l e R s m args below meth c D cA X Bs nL cells slots Q (pc + 1) L (.ref t :: st) M) : cq_V p l e R s m args below meth c D cA X Bs nL cells slots Q pc L (.int i :: .ref a :: st) M := by
  subst hi
  subst ht
  refine cq_aaldA F ha hn (vp_in_nI hj.1 hj.2) hdg ?_
  rw [nI_clamp (Nat.lt_trans hj.1 hj.2)]
  exact k
theorem cq_getT (F : cq_F p s m args meth c D cA Bs nL cc own Ts) {a ci t : Nat} {C : String} {T : u_T} {N index : Nat} (ha : X.1 a = ci) (hc : vwCl[ci]? = some (C, T, N)) (h9 : (0 < ci ∧ ci < 10) ∧ cq_N ci = N) (hin : ∀ w ∈ u_ws C T N, w ∈ Ts) (kf : Nat) (hk : kf < N) (hr : cq_r ci kf = true) (hC : (T kf).1 = C) (ht : X.2.2 a kf = t) (hlink : (Cond.fieldLink own index C (T kf).2.1 (T kf).2.2.1).before args s = true) (hdg : decode cc pc = .ok (.getfield index, 3)) (k : cq_V p l e R s m args below meth c D cA X Bs nL cells slots Q (pc + 3) L (.ref t :: st) M) : cq_V p l e R s m args below meth c D cA X Bs nL cells slots Q pc L (.ref a :: st) M := by
  subst ht
  exact cq_getR F ha hc h9 hin kf hk hr hC hlink hdg k
theorem cq_getTN (F : cq_F p s m args meth c D cA Bs nL cc own Ts) {a ci t : Nat} {C : String} {T : u_T} {N index : Nat} {host : String} (ha : X.1 a = ci) (hc : vwCl[ci]? = some (C, T, N)) (h9 : (0 < ci ∧ ci < 10) ∧ cq_N ci = N) (hin : ∀ w ∈ u_ws C T N, w ∈ Ts) (kf : Nat) (hk : kf < N) (hr : cq_r ci kf = true) (hC : (T kf).1 = C) (ht : X.2.2 a kf = t) (hlink : (Cond.fieldLinkNest own index C (T kf).2.1 (T kf).2.2.1 host).before args s = true) (hdg : decode cc pc = .ok (.getfield index, 3)) (k : cq_V p l e R s m args below meth c D cA X Bs nL cells slots Q (pc + 3) L (.ref t :: st) M) : cq_V p l e R s m args below meth c D cA X Bs nL cells slots Q pc L (.ref a :: st) M := by
  subst ht
  exact cq_getRN F ha hc h9 hin kf hk hr hC hlink hdg k
end CQR
