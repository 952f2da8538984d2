/-! THE CLAIM OUT OF ONE WALK OF THE LAW'S BODY. Your part is whole_start (and what it stands on); all else here is the same for every law, but numbers. -/
def R_law : String := "CordClockLaw"
def lw_P (b : Addr) (xs : List Int32) (args : Array Value) (s : State) : Prop := args = #[.ref b] ∧ s.IntsAt b xs ∧ xs.length ≤ 2048 ∧ (Jvm.Cond.and given_1 narrow_1).before args s = true
/-- what a walk over the start with the record d0 says of its end, said of the start itself -/
theorem lw_closed {s t : State} {o : Outcome} {d0 : Drawn} {L : List Loc} {k n : Nat} (hd0 : s.drawn.sameBut d0 lw_cs) (hv : ∃ v, o = .returned v) (hW : (s.setDrawn d0).WarmedH t.vm) (hs : (s.setDrawn d0).sameButNew ({ t with vm := s.vm } : State) L k n) : State.butDraws s t lw_cs (fun t1 => Framed s o t1 L k n) := by
  have h2 : t.drawn = d0 := congrArg State.drawn hs.1
  refine ⟨⟨hv, hW, State.sameButNew.setDrawn hs s.drawn⟩, ?_, by decide⟩
  rw [h2]
  exact hd0
def lw_Q (_ : Array Value) (s : State) (o : Outcome) (t : State) : Prop := o = .returned (some (.int 1)) ∧ State.butDraws s t lw_cs (fun t1 => Framed s o t1 [] 601024 7293034)
def lw_Z (below : List Frame) (a : Array Value) (s : State) : State → Prop := fun t => ∃ o, t.status = .running ∧ Ended t below o ∧ lw_Q a s o t
/-- the law's own end, with 1 on the stack, nothing written that was there before, its room as the claim has it; d0: the record of draws at this point (at the entry s.drawn: begin with 'refine W.base ?_' and 'have hd0 := Drawn.sameBut.refl s.drawn lw_cs') -/
theorem lw_ret {p : Program} {l : Launch} {e : Env} {s : State} {m : MethodId} {below : List Frame} {meth : Method} {c : Code} {b : Nat} {d0 : Drawn} (hd0 : s.drawn.sameBut d0 lw_cs) (hx : p.tables.exec = Jvm.exec) (hb : c.code = code) (hr : meth.sig.returnType = ret) (hlocks : meth.locks = false) {pc : Nat} {H : Heap} {ls : Array Slot} (hdg : decode code pc = .ok (.ireturn, 1)) : W p l e room_1 (s.setDrawn d0) m #[Value.ref b] below meth c H [] 601024 7293034 (lw_Z below #[Value.ref b] s) (F0 m pc ls [.int 1]) := by
  intro T hT X
  obtain ⟨fs, hret, hrun, hended, hW, hframe⟩ := X.leave (v := some (.int 1)) (hlocks := hlocks) (fun h => by rw [hr] at h; cases h)
  have hmeth' : T.vm.method? m = some meth := X.method'
  refine ⟨T.setFrames fs, ?_, .returned (some (.int 1)), hrun, hended, rfl, lw_closed hd0 ⟨_, rfl⟩ hW hframe⟩
  jvm_step X.here [X.here.top, hx, hb, hdg, hmeth', hr, ret, narrow_b1]
  (try refine ⟨rfl, ?_⟩); (try refine ⟨rfl, ?_⟩)
  first | (intro acts; rw [hret _ acts rfl rfl rfl]) | rw [hret _ _ rfl rfl rfl]
  exact Steps.refl _
/-- what holds at the law's entry: the machine, the code, the tables' words (any of lw_tbl by 'hts w (by decide +kernel)'), the script of L ints xs at the cell b, what the Statement gives of the start (any of its parts by flat_of_before) -/
def lw_At (p : Program) (s : State) (m : MethodId) (meth : Method) (c : Code) (b L : Nat) (xs : Nat → Int32) : Prop :=
  p.tables.exec = Jvm.exec ∧ c.code = code ∧ meth.sig.returnType = ret ∧ c.maxLocals = 9 ∧ s.vm.findClass R_law = some m.cls ∧ (∀ w ∈ lw_tbl, w.before #[Value.ref b] s = true) ∧ va_X b L xs s s.heap ∧ b < s.heap.size ∧ meth.locks = false ∧ (Jvm.Cond.and given_1 narrow_1).before #[Value.ref b] s = true
section CNL
variable {p : Program} {l : Launch} {e : Env} {s : State} {m : MethodId} {args : Array Value} {below : List Frame} {meth : Method} {c : Code} {D : va_G} {cA : Nat → ClassId} {Bs cells slots : Nat} {Q : State → Prop} {pc : Nat} {L : List (Nat × Value)} {st : List Value} {K : cn_K} {sz : Nat}
theorem cn_astore_n (F : cq_F p s m args meth c D cA Bs 9 cL_law RL wsL_law) {k : Fin 4} {i : Nat} {x : Nat} (hdg : decode cL_law pc = .ok (.astore_n k, 1)) (hi : (k : Nat) = i) (hn : i < 9) (k : cn_V p l e room_1 s m args below meth c D Bs 9 cells slots Q (pc + 1) ((i, .ref x) :: L) st K sz) : cn_V p l e room_1 s m args below meth c D Bs 9 cells slots Q pc L (.ref x :: st) K sz := fun H locs ls hz hH hS hL => by
  obtain ⟨l9, h1, h2⟩ := hL
  exact lv_astore_n F.1.1 F.1.2.1 hdg hi h1 hn rfl (fun ls2 h3 => k H locs ls2 hz hH hS (cq_L.put h2 h3 rfl))
/-- the new objects are the shape's -/
theorem cn_to {X : cq_X} {M : cq_M} (hK : ∀ a, X.1 a ≠ 0 → w9_ok K cA X M a) (k : cq_V p l e room_1 s m args below meth c D cA X Bs 9 cells slots Q pc L st M) : cn_V p l e room_1 s m args below meth c D Bs 9 cells slots Q pc L st K sz := fun H locs ls _ hH hS hL => k H locs ls (w9_H hH hK) hS hL
theorem cp_clock.fr {K K1 : cn_K} {cA : Nat → ClassId} {a : Nat} (h : cp_clock K cA a) (hf : ∀ x, a ≤ x → x < a + 249 → K1 x = K x) : cp_clock K1 cA a := by
  obtain ⟨h1, h2, h3, h4, h5, h6, h7, h8, h9, h10⟩ := h
  exact ⟨by rw [hf _ (by omega) (by omega)]; exact h1, h2.fr (fun x k1 k2 => hf x (by omega) (by omega)), h3.fr (fun x k1 k2 => hf x (by omega) (by omega)), h4.fr (hf _ (by omega) (by omega)), h5.fr (hf _ (by omega) (by omega)), by rw [hf _ (by omega) (by omega)]; exact h6, h7.fr (fun x k1 k2 => hf x (by omega) (by omega)), h8.fr (fun x k1 k2 => hf x (by omega) (by omega)), fun j hj => (h9 j hj).fr (fun x k1 k2 => hf x (by omega) (by omega)), fun j hj => (h10 j hj).fr (fun x k1 k2 => hf x (by omega) (by omega))⟩
theorem cp_model.fr {K K1 : cn_K} {cA : Nat → ClassId} {a : Nat} (h : cp_model K cA a) (hf : ∀ x, a ≤ x → x < a + 15 → K1 x = K x) : cp_model K1 cA a := by
  obtain ⟨h0, h1, h2, h3, h4, h5, h6, h7, h8, h9, h10, h11, h12, h13, h14⟩ := h
  exact ⟨by rw [hf _ (by omega) (by omega)]; exact h0, by rw [hf _ (by omega) (by omega)]; exact h1, by rw [hf _ (by omega) (by omega)]; exact h2, by rw [hf _ (by omega) (by omega)]; exact h3, by rw [hf _ (by omega) (by omega)]; exact h4, by rw [hf _ (by omega) (by omega)]; exact h5, by rw [hf _ (by omega) (by omega)]; exact h6, by rw [hf _ (by omega) (by omega)]; exact h7, by rw [hf _ (by omega) (by omega)]; exact h8, by rw [hf _ (by omega) (by omega)]; exact h9, by rw [hf _ (by omega) (by omega)]; exact h10, by rw [hf _ (by omega) (by omega)]; exact h11, by rw [hf _ (by omega) (by omega)]; exact h12, by rw [hf _ (by omega) (by omega)]; exact h13, by rw [hf _ (by omega) (by omega)]; exact h14⟩
theorem w9_c1 : Cond.classLink RL 8 RX6 ∈ wsL_law ∧ Cond.instantiable RX6 9 ∈ wsL_law ∧ Cond.initialized RX6 ∈ wsL_law ∧ Cond.methodLink RL 87 yX6_init ∈ wsL_law ∧ Cond.instanceMethod yX6_init ∈ wsL_law := ⟨by decide +kernel, by decide +kernel, by decide +kernel, by decide +kernel, by decide +kernel⟩
theorem w9_c2 : Cond.classLink RL 88 RX7 ∈ wsL_law ∧ Cond.instantiable RX7 22 ∈ wsL_law ∧ Cond.initialized RX7 ∈ wsL_law ∧ Cond.methodLink RL 90 yX7_init ∈ wsL_law ∧ Cond.instanceMethod yX7_init ∈ wsL_law := ⟨by decide +kernel, by decide +kernel, by decide +kernel, by decide +kernel, by decide +kernel⟩
theorem w9_c3 : Cond.arrayClass .long ∈ wsL_law := by decide +kernel
set_option maxRecDepth 100000 in
set_option maxHeartbeats 4000000 in
/-- the law's first rows: a clock, its reference, an array; then the loop -/
theorem w9_pro {b0 : Nat} (F : cq_F p s m args meth c D cA s.heap.size 9 cL_law RL wsL_law) (O : cn_O s) (k : cq_V p l e room_1 s m args below meth c D cA (w9_X s.heap.size) s.heap.size 9 266 16781 Q 20 [(3, .ref (s.heap.size + 264)), (2, .ref (s.heap.size + 249)), (1, .ref s.heap.size), (0, .ref b0)] [] (w9_M (w9_X s.heap.size))) : cn_V p l e room_1 s m args below meth c D s.heap.size 9 0 0 Q 0 [(0, .ref b0)] [] (fun _ => none) s.heap.size := by
  obtain ⟨o, ho⟩ : ∃ o, o = s.heap.size := ⟨_, rfl⟩
  rw [← ho] at F k ⊢
  refine cn_new F (ci := 7) (C := RX6) (T := TX6) (N := 9) (fs := [.null, .null, .null, .int 0, .int 0, .null, .null, .null, .null]) rfl inlX6 tyX6 tyX6_ok (F.1.2.2.2.2 _ w9_c1.1) (F.1.2.2.2.2 _ w9_c1.2.1) (F.1.2.2.2.2 _ w9_c1.2.2.1) (fun j hj => by rcases (show j = 0 ∨ j = 1 ∨ j = 2 ∨ j = 3 ∨ j = 4 ∨ j = 5 ∨ j = 6 ∨ j = 7 ∨ j = 8 by omega) with rfl | rfl | rfl | rfl | rfl | rfl | rfl | rfl | rfl <;> rfl) ⟨Nat.le_of_ble_eq_true rfl, Nat.le_of_ble_eq_true rfl⟩ dL_law_0 ?_
  refine cn_up (fun K1 eK1 => ?_)
  refine cn_dup F dL_law_3 rfl ?_
  refine cn_callI F O (As := []) (kX6_init l D cA o o K1 (by rw [eK1]; exact cn_u_s _ _ _)) (cwI 0 F.1.2.2.2.2 gL_law_X6_init rfl rfl rfl (F.1.2.2.2.2 _ w9_c1.2.2.1) (F.1.2.2.2.2 _ w9_c1.2.2.2.1) (F.1.2.2.2.2 _ w9_c1.2.2.2.2) rfl (by decide +kernel) ⟨Nat.le_of_ble_eq_true rfl, Nat.le_of_ble_eq_true rfl⟩) rfl (Nat.le_of_ble_eq_true rfl) dL_law_4 ⟨Nat.le_of_ble_eq_true rfl, Nat.le_of_ble_eq_true rfl⟩ (fun K2 h2 => ?_)
  refine cn_astore_n F dL_law_7 rfl (by decide) ?_
  refine cn_new F (ci := 8) (C := RX7) (T := TX7) (N := 22) (fs := [.null, .null, .int 0, .null, .null, .null, .int 0, .null, .int 0, .int 0, .int 0, .int 0, .null, .null, .null, .null, .null, .null, .null, .int 0, .null, .int 0]) rfl inlX7 tyX7 tyX7_ok (F.1.2.2.2.2 _ w9_c2.1) (F.1.2.2.2.2 _ w9_c2.2.1) (F.1.2.2.2.2 _ w9_c2.2.2.1) (fun j hj => by rcases (show j = 0 ∨ j = 1 ∨ j = 2 ∨ j = 3 ∨ j = 4 ∨ j = 5 ∨ j = 6 ∨ j = 7 ∨ j = 8 ∨ j = 9 ∨ j = 10 ∨ j = 11 ∨ j = 12 ∨ j = 13 ∨ j = 14 ∨ j = 15 ∨ j = 16 ∨ j = 17 ∨ j = 18 ∨ j = 19 ∨ j = 20 ∨ j = 21 by omega) with rfl | rfl | rfl | rfl | rfl | rfl | rfl | rfl | rfl | rfl | rfl | rfl | rfl | rfl | rfl | rfl | rfl | rfl | rfl | rfl | rfl | rfl <;> rfl) ⟨Nat.le_of_ble_eq_true rfl, Nat.le_of_ble_eq_true rfl⟩ dL_law_8 ?_
  refine cn_up (fun K3 eK3 => ?_)
  refine cn_dup F dL_law_11 rfl ?_
  refine cn_callI F O (As := []) (kX7_init l D cA o (o + 249) K3 (by rw [eK3]; exact cn_u_s _ _ _)) (cwI 0 F.1.2.2.2.2 gL_law_X7_init rfl rfl rfl (F.1.2.2.2.2 _ w9_c2.2.2.1) (F.1.2.2.2.2 _ w9_c2.2.2.2.1) (F.1.2.2.2.2 _ w9_c2.2.2.2.2) rfl (by decide +kernel) ⟨Nat.le_of_ble_eq_true rfl, Nat.le_of_ble_eq_true rfl⟩) rfl (Nat.le_of_ble_eq_true rfl) dL_law_12 ⟨Nat.le_of_ble_eq_true rfl, Nat.le_of_ble_eq_true rfl⟩ (fun K4 h4 => ?_)
  refine cn_astore_n F dL_law_15 rfl (by decide) ?_
  refine cn_iconst F (v := 1) dL_law_16 rfl ?_
  refine cn_newa F (atype := .long) (t := 7) (a0 := (1, .inr (.inl (fun _ => 0)))) (N := 1) (F.1.2.2.2.2 _ w9_c3) (F.2.1.2 7 _ rfl).2 rfl (by decide) (by decide) (Nat.le_of_ble_eq_true rfl) ⟨Nat.le_of_ble_eq_true rfl, Nat.le_of_ble_eq_true rfl⟩ dL_law_17 ?_
  refine cn_up (fun K5 eK5 => ?_)
  refine cn_astore_n F dL_law_19 rfl (by decide) ?_
  refine cn_widen (k := 266) (n := 16781) (Nat.le_of_ble_eq_true rfl) (Nat.le_of_ble_eq_true rfl) ?_
  refine cn_to (X := w9_X o) (M := w9_M (w9_X o)) (w9_all (b := o) ?_ ?_ ?_) k
  · refine h2.1.fr (fun x k1 k2 => ?_)
    rw [eK5, cn_u_n (by omega), h4.2 x (by omega), eK3, cn_u_n (by omega)]
  · refine h4.1.fr (fun x k1 k2 => ?_)
    rw [eK5, cn_u_n (by omega)]
  · rw [eK5]
    exact cn_u_s _ _ _
end CNL
theorem w9_fl0 {l : Launch} (hflags : l.flags = flags0) : l.stackTraces = false := by
  unfold Launch.stackTraces
  rw [hflags]
  decide +kernel
set_option maxRecDepth 100000 in
set_option maxHeartbeats 4000000 in
/-- THE LAW, from its entry -/
theorem whole_start {p : Program} {e : Env} {s : State} {m : MethodId} {below : List Frame} {meth : Method} {c : Code} (l : Launch) (hflags : l.flags = flags0) {b L : Nat} {xs : Nat → Int32} (hL : L ≤ 2048) (C0 : lw_At p s m meth c b L xs) : W p l e room_1 s m #[Value.ref b] below meth c s.heap [] 0 0 (lw_Z below #[Value.ref b] s) (entryFrame m ([Value.ref b] : List Value).toArray 9) := by
  obtain ⟨hx, hb, hr, hml, hown, hts, hX, hbl, hlocks, hgv⟩ := id C0
  have hwl : ∀ w ∈ wsL_law, w.before #[Value.ref b] s = true := fun w h => w9_hts hts w (wsL_law_in w h)
  obtain ⟨D, cA, hK, hE⟩ := w9_D hwl hts (w9_fls hgv)
  have O := w9_O hts
  have F : cq_F p s m #[Value.ref b] meth c D cA s.heap.size 9 cL_law RL wsL_law := ⟨⟨hx, hb, hml, hown, hwl⟩, hK, hlocks, Nat.le_refl _, hE⟩
  have hd0 := Drawn.sameBut.refl s.drawn lw_cs
  have hl9 := lv_entry ([.ref b]) (n := 9) (Nat.le_of_ble_eq_true rfl)
  rw [lg_entry_eq]
  have key : cn_V p l e room_1 s m #[Value.ref b] below meth c D s.heap.size 9 0 0 (lw_Z below #[Value.ref b] s) 0 [(0, .ref b)] [] (fun _ => none) s.heap.size := by
    refine w9_pro F O ?_
    refine cq_iconst F (v := 0) dL_law_20 rfl ?_
    refine cq_istore F dL_law_21 (by decide) ?_
    refine cq_loc (L2 := [(0, .ref b), (1, .ref s.heap.size), (2, .ref (s.heap.size + 249)), (3, .ref (s.heap.size + 264)), (4, .int (nI (4 * 0)))]) rfl ?_
    refine w9_loop (c0 := 266) (s0 := 16781) (w9_fl0 hflags) F hX ⟨hbl, hbl⟩ hL (w9_clock _) (w9_model _) (w9_out _).1 (w9_out _).2 ⟨by decide, by decide⟩ (fun n M1 c1 s1 hc1 hs1 => ?_) 513 0 w9_S _ (by decide) (by decide) (w9_ck _) (w9_cm _) w9_as
    refine cq_iconst F (v := 1) dL_law_1708 rfl ?_
    intro H locs ls hH hS hL9
    refine W.widen (k := 601024) (n := 7293034) (by omega) (by omega) ?_
    have hw := lw_ret (l := l) (e := e) (H := H) (ls := ls) (b := b) (below := below) (m := m) (p := p) (s := s) (meth := meth) (c := c) hd0 hx hb hr hlocks dL_law_1709
    exact W.forget (locs := []) (L := locs) (fun q hq => hS.2.2 q hq) hw
  exact key s.heap [] _ rfl (fun a e h => by cases h) va_S.rf (cq_L.of hl9 rfl)
set_option maxHeartbeats 4000000 in
theorem lw_walk (l : Launch) (hflags : l.flags = flags0) (b : Addr) (xs : List Int32) : MetFree l x (headSpec (Jvm.Cond.code x code maxLocals ret :: tables_1) room_1) (lw_P b xs) (fun _ _ _ _ _ => True) lw_Q := by
  refine MetFree.of_bodyS (code := code) (maxLocals := maxLocals) (ret := ret) (by decide) ?_ ?_
  · intro args s m h hn
    obtain ⟨meth, c, h1, h2, h3, h4, h5, h6, -, -⟩ := Cond.code_spec hn (atoms_spec (ws := Jvm.Cond.code x code maxLocals ret :: tables_1) h _ List.mem_cons_self)
    exact ⟨meth, c, h1, h2, h3, h4, h5, h6⟩
  · intro p e s m args below meth c s₁ B hml0 hP _
    obtain ⟨rfl, hx, hbd, hgv⟩ := hP
    obtain ⟨scr, harrAt, hlist, hof, hsmall⟩ := hx
    obtain ⟨hcb, hkn, -, -⟩ := State.arrayAt?_spec harrAt
    have hown : s.vm.findClass R_law = some m.cls := findClass_of_methodNamed B.named
    have hts0 : ∀ c ∈ (Jvm.Cond.code x code maxLocals ret :: tables_1), c.before #[Value.ref b] s = true := atoms_spec (ws := Jvm.Cond.code x code maxLocals ret :: tables_1) B.pre
    have hts : ∀ w ∈ lw_tbl, w.before #[Value.ref b] s = true := k2_hts_sels lw_privs (fun w hw => hts0 w (List.mem_cons_of_mem _ hw)) lw_privs_ok
    have hml : c.maxLocals = 9 := B.maxLocals_eq (hts0 _ List.mem_cons_self)
    have X₀ : Stand p l e room_1 s m #[Value.ref b] below meth c s₁ [] 0 0 := Stand.of_body B
    have hh0 : s₁.heap = s.heap := by rw [B.state]; rfl
    have hsz : scr.slots.size = xs.length := by rw [← Array.length_toList, hlist, List.length_map]
    have hval : ∀ j : Nat, j < xs.length → scr.slots[j]? = some (.int (xs.getD j 0)) := fun j hj => by
      rw [← Array.getElem?_toList, hlist]
      simp [hj]
    have hbl : b < s.heap.size := (Array.getElem?_eq_some_iff.mp hcb).1
    have hX : va_X b xs.length (fun j => xs.getD j 0) s s.heap := ⟨scr, hcb, hof, hkn, hsz, hval⟩
    have K : W p l e room_1 s m #[Value.ref b] below meth c s₁.heap [] 0 0 (lw_Z below #[Value.ref b] s) (entryFrame m ([Value.ref b] : List Value).toArray 9) := by
      rw [hh0]
      exact whole_start l hflags hbd ⟨B.exec, B.bytes, B.returns, hml, hown, hts, hX, hbl, B.notSynchronized, hgv⟩
    obtain ⟨t, a1, o, b1, b2, b3⟩ := K s₁ rfl X₀
    exact ⟨t, o, a1, b1, b2, b3⟩
theorem lw_pre_spec {args : Array Value} {s : State} (h : (Jvm.Cond.and given_1 narrow_1).before args s = true) (hr : rest_1_c.before args s = true) : ∃ (b : Addr) (xs : List Int32), lw_P b xs args s := by
  have hs := flat_of_before _ h
  have hq := flat_of_before _ hr
  have hc : (Cond.count 1).before args s = true := hs _ (by decide +kernel)
  have harr : (Cond.arrayOf (.arg 0) .int).before args s = true := hs _ (by decide +kernel)
  have hle : (Cond.le (.length (.arg 0)) (.int 2048)).before args s = true := hs _ (by decide +kernel)
  have hlen : (Cond.isInt (.length (.arg 0))).before args s = true := hq _ (by decide +kernel)
  have hall : (Cond.all (.arg 0) (.isInt (.elem (.arg 0) (.index 0)))).before args s = true := hq _ (by decide +kernel)
  obtain ⟨b, xs, hb, hx⟩ := State.ints_of_pre rfl harr hlen hall
  have hsm : xs.length < 2 ^ 31 := hx.choose_spec.2.2.2
  have hev : (Term.length (.arg 0)).eval args s none [] s = some (.int xs.length.toInt32) := hx.length_eval hb
  have hv := Cond.le_ints hev (show (Term.int 2048).eval args s none [] s = some (.int 2048) from rfl)
  have hd : xs.length.toInt32 ≤ 2048 := by
    simpa [Cond.before, Cond.holds, hv] using hle
  have hN : xs.length ≤ 2048 := (Int32.ofNat_le_ofNat hsm (by decide)).mp (show Int32.ofNat xs.length ≤ Int32.ofNat 2048 from hd)
  exact ⟨b, xs, Cond.one_arg hc (show args[0]? = some (.ref b) from hb), hx, hN, h⟩
theorem lw_comes (l : Launch) (hflags : l.flags = flags0) : Comes l x (Jvm.Cond.code x code maxLocals ret :: tables_1) room_1 (fun tb e args s => Calls_1 tb e args s ∧ rest_1 tb e args s ∧ Pre_1 tb e args s)
    (fun _ _ args s o t => lw_Q args s o t) := by
  intro p e ha hc hk s m args below hf hfit hheap happ hpre
  obtain ⟨b, xs, hP⟩ := lw_pre_spec hpre.2.2 hpre.2.1
  obtain ⟨k, o, h1, h2, h3, hQ⟩ := lw_walk l hflags b xs p e ha hc hk s m args below hf ((Spec.applies_iff_loose hf).mp happ).1 hP trivial
  exact ⟨k, o, h1, h2, h3, hQ⟩
theorem lw_frame {s t : State} {o : Outcome} {args : Array Value} (h : State.butDraws s t lw_cs (fun t1 => Framed s o t1 [] 601024 7293034)) :
    State.butDraws s t [Jvm.Choice.named "NaN.bits"] (fun t1 => Framed s o t1 (fieldLocs frame_1_writes args s ++ arrayLocs frame_1_arrays args s ++ staticLocs frame_1_statics s) 601024 7293034) := h
theorem lw_limb (L : Cond) (hL : ∀ (args : Array Value) (s t : State), L.after args s (.returned (some (.int 1))) t = true) :
    ArmFor flags0 classFile x code maxLocals ret World_1 tables_1 room_1 Calls_1 rest_1 Pre_1
      (fun tb e a s o t => postC L tb e a s o t ∧ State.butDraws s t [Jvm.Choice.named "NaN.bits"] (fun t1 => Framed s o t1 (fieldLocs frame_1_writes a s ++ arrayLocs frame_1_arrays a s ++ staticLocs frame_1_statics s) 601024 7293034)) := by
  intro l hflags _ _ p e ha hc hk s m args below hf hfit hheap happ hpre
  obtain ⟨k, o, h1, h2, h3, rfl, hF⟩ := lw_comes l hflags p e ha hc hk s m args below hf hfit hheap happ hpre
  exact ⟨k, _, h1, h2, h3, hL args s _, lw_frame hF⟩
theorem i_vc : Claimed_1_1 ∧ Claimed_1_2 := ⟨lw_limb limb_1_1 (fun args s t => by simp [limb_1_1, Cond.after, Cond.holds, Cond.value]), lw_limb limb_1_2 (fun args s t => Cond.after_iff.mpr (by
  first | (rw [show limb_1_2 = Cond.eq .result (.int 1) from rfl, Cond.eq_ints (x := 1) (y := 1) rfl rfl]; simp; done) | (simp [limb_1_2, Cond.value, Term.eval]; done)))⟩
