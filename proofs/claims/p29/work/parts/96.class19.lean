/-! an entry as the class writes it: charAt, floorMod, kindText, Book.tell -/
section CQX
variable {p : Program} {l : Launch} {e : Env} {R : Room} {s : State} {m : MethodId} {args : Array Value} {below : List Frame} {meth : Method} {c : Code} {D : va_G} {cA : Nat → ClassId} {X : cq_X} {Bs nL cells slots : Nat} {Q : State → Prop} {cc : ByteArray} {own : String} {Ts : List Cond} {pc : Nat} {L : List (Nat × Value)} {st : List Value} {M : cq_M}
theorem cq_ixor (F : cq_F p s m args meth c D cA Bs nL cc own Ts) {x y : Int32} (hdg : decode cc pc = .ok (.ixor, 1)) (k : cq_V p l e R s m args below meth c D cA X Bs nL cells slots Q (pc + 1) L (.int (x ^^^ y) :: st) M) : cq_V p l e R s m args below meth c D cA X Bs nL cells slots Q pc L (.int y :: .int x :: st) M := fun H locs ls hH hS hL => lv_ixor F.1.1 F.1.2.1 hdg (k H locs ls hH hS hL)
end CQX
theorem cq_metF {l : Launch} {y : MethodName} {ws ws' : List Cond} {rm : Room} {D : va_G} {cA : Nat → ClassId} {X : cq_X} {Bs : Nat} {av : List Value} {M : cq_M} {Post : Option Value → cq_M → Prop} {mc ms : Nat} {cc : ByteArray} {maxL : Nat} {ret : Option FieldType} (hy : plainFor y = true) (hw : ws = Cond.code y cc maxL ret :: ws') (hn : (lg_sl av).length ≤ maxL) (L : List (Nat × Value)) (hL : lv_args 0 av = L) (hc : L.all (fun q => Nat.beq q.2.category 1) = true)
    (body : ∀ (p : Program) (e : Env) (s : State) (m : MethodId) (below : List Frame) (meth : Method) (c : Code), cq_F p s m av.toArray meth c D cA Bs maxL cc y.cls ws → meth.sig.returnType = ret → cq_V p l e rm s m av.toArray below meth c D cA X Bs maxL 0 0 (MQ below (cq_Q D cA X Bs Post) av.toArray s mc ms (cq_A Bs)) 0 L [] M) : cq_C l y ws rm D cA X Bs av M Post mc ms := by
  refine va_MetF (cc := cc) (maxL := maxL) (ret := ret) hy hw ?_
  intro p e s m args below meth c s₁ B hml hv
  obtain ⟨rfl, hH, hK, hB, hE⟩ := hv
  have hts := atoms_spec (ws := ws) B.pre
  have h := body p e s m below meth c ⟨⟨B.exec, B.bytes, hml, findClass_of_methodNamed B.named, hts⟩, hK, B.notSynchronized, hB, hE⟩ B.returns
  rw [lg_entry_eq]
  have hl := lv_entry av (n := maxL) hn
  rw [hL] at hl
  exact h s.heap [] _ hH va_S.rf (cq_L.of hl hc)
theorem sd_and : ∀ c, c < 128 → nI c &&& 255 = nI c ∧ ((nI c).toUInt32 % 65536).toInt32 = nI c := by decide
theorem sd_nx : ∀ nx, nx < 8 → ∀ a, a < 8 → nI nx - 1 - nI a = nI (nx + 7 - a) - 8 := by decide
theorem sd_f1 : ∀ v, v < 16 → (0 : Int32) ≤ ((nI v - 8) ^^^ 8) → (nI v - 8) - (nI v - 8) / 8 * 8 = nI (v % 8) := by decide
theorem sd_f2 : ∀ v, v < 16 → ¬ (0 : Int32) ≤ ((nI v - 8) ^^^ 8) → (nI v - 8) - (nI v - 8) / 8 * 8 = 0 → (nI v - 8) - (nI v - 8) / 8 * 8 = nI (v % 8) := by decide
theorem sd_f3 : ∀ v, v < 16 → ¬ (0 : Int32) ≤ ((nI v - 8) ^^^ 8) → ¬ (nI v - 8) - (nI v - 8) / 8 * 8 = 0 → (nI v - 8) - (nI v - 8) / 8 * 8 + 8 = nI (v % 8) := by decide
/-- the characters of an entry, laid by appends -/
def en_cat (f : Nat → Nat) (n : Nat) (g : Nat → Nat) : Nat → Nat := fun j => if j < n then f j else g (j - n)
theorem sd_kt : cq_tl 0 = 5 ∧ cq_tl 1 = 5 ∧ cq_tl 2 = 3 := by decide
theorem sd_k0 : ∀ j, j < 5 → nI (cq_tb 0 j).toNatClampNeg = (if j = 0 then 108 else if j = 1 then 105 else if j = 2 then 116 else if j = 3 then 32 else 76) := by decide
theorem sd_k1 : ∀ j, j < 5 → nI (cq_tb 1 j).toNatClampNeg = (if j = 0 then 108 else if j = 1 then 105 else if j = 2 then 116 else if j = 3 then 32 else 82) := by decide
theorem sd_k2 : ∀ j, j < 3 → nI (cq_tb 2 j).toNatClampNeg = (if j = 0 then 111 else if j = 1 then 117 else 116) := by decide
theorem en_at_lo {k c n j : Nat} (hk : k ≤ 2) (hj : j < cq_tl k) : en_at k c n j = nI (cq_tb k j).toNatClampNeg := by
  obtain ⟨t0, t1, t2⟩ := sd_kt
  unfold en_at
  rcases (show k = 0 ∨ k = 1 ∨ k = 2 by omega) with rfl | rfl | rfl
  · rw [if_neg (by decide), if_pos (by omega), if_pos rfl, sd_k0 j (by omega)]
  · rw [if_neg (by decide), if_pos (by omega), sd_k1 j (by omega)]
    rfl
  · rw [if_pos rfl, if_pos (by omega), sd_k2 j (by omega)]
theorem en_at_hi {k c n j : Nat} (hk : k ≤ 2) (hj : cq_tl k ≤ j) : en_at k c n j = en_tl c n (j - cq_tl k) := by
  obtain ⟨t0, t1, t2⟩ := sd_kt
  unfold en_at
  rcases (show k = 0 ∨ k = 1 ∨ k = 2 by omega) with rfl | rfl | rfl
  · rw [if_neg (by decide), if_neg (by omega), t0]
  · rw [if_neg (by decide), if_neg (by omega), t1]
  · rw [if_pos rfl, if_neg (by omega), t2]
/-- the text as the class lays it, piece by piece -/
def en_f (k c n : Nat) : Nat → Nat := fun j => if j < cq_tl k + 1 + en_len c + 1 then (if j < cq_tl k + 1 + en_len c then (if j < cq_tl k + 1 then (if j < cq_tl k then (if j < 0 then 0 else (cq_tb k (j - 0)).toNatClampNeg) else 32) else 48 + c / 10 ^ (en_len c - 1 - (j - (cq_tl k + 1))) % 10) else 64) else 48 + n / 10 ^ (en_len n - 1 - (j - (cq_tl k + 1 + en_len c + 1))) % 10
theorem en_f_at {k c n j : Nat} (hk : k ≤ 2) (hc : c < 4) (hj : j < cq_tl k + 3 + en_len n) : en_f k c n j < 128 ∧ nI (en_f k c n j) = en_at k c n j := by
  have hl : en_len c = 1 := en_len_9 (by omega)
  unfold en_f
  rw [hl]
  by_cases h0 : j < cq_tl k
  · rw [if_pos (by omega), if_pos (by omega), if_pos (by omega), if_pos h0, if_neg (by omega), Nat.sub_zero, en_at_lo hk h0]
    exact ⟨(cq_ch9 k (by omega) j h0).2, rfl⟩
  · rw [en_at_hi hk (by omega)]
    unfold en_tl
    by_cases h1 : j = cq_tl k
    · rw [if_pos (by omega), if_pos (by omega), if_pos (by omega), if_neg h0, if_pos (by omega)]
      exact ⟨by decide, rfl⟩
    · by_cases h2 : j = cq_tl k + 1
      · rw [if_pos (by omega), if_pos (by omega), if_neg (by omega), if_neg (by omega), if_pos (by omega), show 1 - 1 - (j - (cq_tl k + 1)) = 0 by omega]
        have : c / 10 ^ 0 % 10 = c := by rw [Nat.pow_zero, Nat.div_one]; omega
        rw [this]
        exact ⟨by omega, rfl⟩
      · by_cases h3 : j = cq_tl k + 2
        · rw [if_pos (by omega), if_neg (by omega), if_neg (by omega), if_neg (by omega), if_pos (by omega)]
          exact ⟨by decide, rfl⟩
        · rw [if_neg (by omega), if_neg (by omega), if_neg (by omega), if_neg (by omega), if_pos (by omega), show j - (cq_tl k + 1 + 1 + 1) = j - cq_tl k - 3 by omega]
          exact ⟨by omega, rfl⟩
theorem en_at_end {k c n j : Nat} (hk : k ≤ 2) (hj : cq_tl k + 3 + en_len n ≤ j) : en_at k c n j = -1 := by
  rw [en_at_hi hk (by omega)]
  unfold en_tl
  rw [if_neg (by omega), if_neg (by omega), if_neg (by omega), if_neg (by omega)]
abbrev rmJ5_charAt_5068e : Room := ({ frames := 2, cells := 0, slots := 0, locals := 43 })
set_option maxHeartbeats 4000000 in
set_option maxRecDepth 100000 in
theorem kJ5_charAt_5068e (l : Launch) (D : va_G) (cA : Nat → ClassId) (X : cq_X) (Bs : Nat) (q n j : Nat) (f : Nat → Nat) (M : cq_M) (hq : cq_isSB X q) (h : sb_ok M q n f) (hj : j < n) (hn : n ≤ 16) (hf : ∀ j, j < n → f j < 128) : cq_C l yJ5_charAt_5068e wsJ5_charAt_5068e rmJ5_charAt_5068e D cA X Bs [.ref q, .int (nI j)] M (cq_PI (fun r M1 => r = nI (f j) ∧ M1 = M)) 0 0 := by
  refine cq_met (cc := cJ5_charAt_5068e) (maxL := 5) (ret := (some .char)) (by decide) rfl (Nat.le_of_ble_eq_true rfl) [(0, .ref q), (1, .int (nI j))] rfl rfl ?_
  intro p9 e9 s9 m9 b9 t9 c9 F hr
  have inJ4 : ∀ w ∈ wsJ40, w ∈ wsJ5_charAt_5068e := (fun w h => List.mem_cons_of_mem _ (List.mem_append_right _ h))
  refine cq_aload_n F (i := 0) dJ5_charAt_5068e_0 rfl rfl ?_
  refine cq_getIh F (C := RJ4) (T := TJ4) (N := 4) (ci := 9) hq.kind rfl ⟨⟨by decide, by decide⟩, rfl⟩ inJ4 1 (by decide) rfl (F.1.2.2.2.2 _ (List.mem_of_getElem? (l := wsJ5_charAt_5068e) (i := 1) (a := .fieldLink RJ5 22 "java/lang/AbstractStringBuilder" "coder" "B") (by decide +kernel))) dJ5_charAt_5068e_1 ?_
  rw [show M q 1 = nI (0) from (show M q 1 = nI (0) from h.1)]
  refine cq_istore_n F (i := 2) dJ5_charAt_5068e_4 rfl (by decide) ?_
  refine cq_aload_n F (i := 0) dJ5_charAt_5068e_5 rfl rfl ?_
  refine cq_getTh (t := q + 1) F (C := RJ4) (T := TJ4) (N := 4) (ci := 9) hq.kind rfl ⟨⟨by decide, by decide⟩, rfl⟩ inJ4 0 (by decide) rfl hq.t0 (F.1.2.2.2.2 _ (List.mem_of_getElem? (l := wsJ5_charAt_5068e) (i := 2) (a := .fieldLink RJ5 15 "java/lang/AbstractStringBuilder" "value" "[B") (by decide +kernel))) dJ5_charAt_5068e_6 ?_
  refine cq_astore_n F (i := 3) dJ5_charAt_5068e_9 rfl (by decide) ?_
  refine cq_aload_n F (i := 0) dJ5_charAt_5068e_10 rfl rfl ?_
  refine cq_getIh F (C := RJ4) (T := TJ4) (N := 4) (ci := 9) hq.kind rfl ⟨⟨by decide, by decide⟩, rfl⟩ inJ4 3 (by decide) rfl (F.1.2.2.2.2 _ (List.mem_of_getElem? (l := wsJ5_charAt_5068e) (i := 3) (a := .fieldLink RJ5 79 "java/lang/AbstractStringBuilder" "count" "I") (by decide +kernel))) dJ5_charAt_5068e_11 ?_
  rw [show M q 3 = nI (n) from (show M q 3 = nI (n) from h.2.1)]
  refine cq_aload_n F (i := 3) dJ5_charAt_5068e_14 rfl rfl ?_
  refine cq_alen F hq.k1 hq.n1 dJ5_charAt_5068e_15 ?_
  refine cq_iload_n F (i := 2) dJ5_charAt_5068e_16 rfl rfl ?_
  refine cq_ishr F dJ5_charAt_5068e_17 ?_
  rw [show (nI 16 >>> (nI 0 &&& 31) : Int32) = nI 16 from sb_shr0 _]
  refine cq_mmin F (F.1.2.2.2.2 _ (List.mem_of_getElem? (l := wsJ5_charAt_5068e) (i := 4) (a := .methodLink RJ5 138 Lib.Math.min.name) (by decide +kernel))) (F.1.2.2.2.2 _ (List.mem_of_getElem? (l := wsJ5_charAt_5068e) (i := 5) (a := .static Lib.Math.min.name) (by decide +kernel))) (F.1.2.2.2.2 _ (List.mem_of_getElem? (l := wsJ5_charAt_5068e) (i := 6) (a := .initialized "java/lang/Math") (by decide +kernel))) (F.1.2.2.2.2 _ (List.mem_of_getElem? (l := wsJ5_charAt_5068e) (i := 7) (a := .code Lib.Math.min.name Lib.Math.min.code 2 (some .int)) (by decide +kernel))) ⟨by decide, Nat.le_of_ble_eq_true rfl, by decide, by decide⟩ dJ5_charAt_5068e_18 ?_
  rw [show (if nI 16 < nI n then nI 16 else nI n : Int32) = nI (if 16 < n then 16 else n) from nI_min (x := 16) (y := n) (by omega) (by omega)]
  refine cq_istore F dJ5_charAt_5068e_21 (by decide) ?_
  refine cq_iload_n F (i := 1) dJ5_charAt_5068e_23 rfl rfl ?_
  refine cq_iload F dJ5_charAt_5068e_24 rfl ?_
  refine cq_callS F (kJ0_checkIndex_df160 l D cA X Bs j (if 16 < n then 16 else n) M (by split <;> omega) (by split <;> omega)) (va_cwS 2 F.1.2.2.2.2 gJ5_charAt_5068e_J0_checkIndex_df160 rfl rfl rfl hdVJ0_checkIndex_df160.2 ⟨Nat.le_of_ble_eq_true rfl, Nat.le_of_ble_eq_true rfl⟩) rfl (Nat.le_of_ble_eq_true rfl) dJ5_charAt_5068e_26 ⟨Nat.le_of_ble_eq_true rfl, Nat.le_of_ble_eq_true rfl⟩ (cq_kVp ?_)
  refine cq_iload_n F (i := 2) dJ5_charAt_5068e_29 rfl rfl ?_
  refine cq_if_ne F (tgt := 42) dJ5_charAt_5068e_30 (by decide) (fun c_30 => ?_) (fun c_30 => ?_)
  · have c_30 : ¬ 0 = 0 := fun z => c_30 ((nI_b (a := 0) (b := 0) (by omega) (by omega)).2.2.mpr z)
    omega
  · have c_30 : 0 = 0 := (nI_b (a := 0) (b := 0) (by omega) (by omega)).2.2.mp c_30
    refine cq_aload_n F (i := 3) dJ5_charAt_5068e_33 rfl rfl ?_
    refine cq_iload_n F (i := 1) dJ5_charAt_5068e_34 rfl rfl ?_
    refine cq_bald_j F (j := j) hq.k1 hq.n1 rfl ⟨(by omega), by decide⟩ dJ5_charAt_5068e_35 ?_
    rw [show M (q + 1) j = nI ((f j)) from h.2.2 j hj]
    refine cq_sipush F (v := 255) dJ5_charAt_5068e_36 (by decide) ?_
    refine cq_iand F dJ5_charAt_5068e_39 ?_
    rw [show (nI (f j) &&& 255 : Int32) = nI (f j) from (sd_and _ (hf j hj)).1]
    refine cq_i2c F dJ5_charAt_5068e_40 ?_
    rw [(sd_and _ (hf j hj)).2]
    exact cq_zret F hr (cq_zc (hf j hj)) (by decide) (by decide) dJ5_charAt_5068e_41 ⟨_, rfl, ⟨rfl, rfl⟩⟩
theorem hdVJ5_charAt_5068e : yJ5_charAt_5068e.cls = RJ5 ∧ yJ5_charAt_5068e.cls ≠ "java/lang/invoke/MethodHandle" ∧ yJ5_charAt_5068e.cls ≠ "java/lang/invoke/VarHandle" ∧ (parseMethodDescriptor yJ5_charAt_5068e.desc).map (fun d => d.parameters.length) = some 1 := by decide +kernel
abbrev rmJ4_charAt_5068e : Room := ({ frames := 3, cells := 0, slots := 0, locals := 67 })
set_option maxHeartbeats 4000000 in
set_option maxRecDepth 100000 in
theorem kJ4_charAt_5068e (l : Launch) (D : va_G) (cA : Nat → ClassId) (X : cq_X) (Bs : Nat) (q n j : Nat) (f : Nat → Nat) (M : cq_M) (hq : cq_isSB X q) (h : sb_ok M q n f) (hj : j < n) (hn : n ≤ 16) (hf : ∀ j, j < n → f j < 128) : cq_C l yJ4_charAt_5068e wsJ4_charAt_5068e rmJ4_charAt_5068e D cA X Bs [.ref q, .int (nI j)] M (cq_PI (fun r M1 => r = nI (f j) ∧ M1 = M)) 0 0 := by
  refine cq_met (cc := cJ4_charAt_5068e) (maxL := 2) (ret := (some .char)) (by decide) rfl (Nat.le_of_ble_eq_true rfl) [(0, .ref q), (1, .int (nI j))] rfl rfl ?_
  intro p9 e9 s9 m9 b9 t9 c9 F hr
  refine cq_aload_n F (i := 0) dJ4_charAt_5068e_0 rfl rfl ?_
  refine cq_iload_n F (i := 1) dJ4_charAt_5068e_1 rfl rfl ?_
  refine cq_callSU F (C := RJ4) (ci := 9) (kJ5_charAt_5068e l D cA X Bs q n j f M hq h hj hn hf) (va_cwSU 1 F.1.2.2.2.2 gJ4_charAt_5068e_J5_charAt_5068e_s329 rfl rfl rfl (by decide +kernel) ⟨Nat.le_of_ble_eq_true rfl, Nat.le_of_ble_eq_true rfl⟩) hq.kind ⟨by decide, by decide⟩ rfl rfl rfl (Nat.le_of_ble_eq_true rfl) dJ4_charAt_5068e_2 ⟨Nat.le_of_ble_eq_true rfl, Nat.le_of_ble_eq_true rfl⟩ (cq_kIe ?_)
  exact cq_zret F hr (cq_zc (hf j hj)) (by decide) (by decide) dJ4_charAt_5068e_5 ⟨_, rfl, ⟨rfl, rfl⟩⟩
theorem hdVJ4_charAt_5068e : yJ4_charAt_5068e.cls = RJ4 ∧ yJ4_charAt_5068e.cls ≠ "java/lang/invoke/MethodHandle" ∧ yJ4_charAt_5068e.cls ≠ "java/lang/invoke/VarHandle" ∧ (parseMethodDescriptor yJ4_charAt_5068e.desc).map (fun d => d.parameters.length) = some 1 := by decide +kernel
abbrev rmJ9_floorMod_7cf53 : Room := ({ frames := 0, cells := 0, slots := 0, locals := 0 })
set_option maxHeartbeats 4000000 in
set_option maxRecDepth 100000 in
theorem kJ9_floorMod_7cf53 (l : Launch) (D : va_G) (cA : Nat → ClassId) (X : cq_X) (Bs : Nat) (v : Nat) (M : cq_M) (hv : v < 16) : cq_C l yJ9_floorMod_7cf53 wsJ9_floorMod_7cf53 rmJ9_floorMod_7cf53 D cA X Bs [.int (nI v - 8), .int 8] M (cq_PI (fun r M1 => r = nI (v % 8) ∧ M1 = M)) 0 0 := by
  refine cq_metF (cc := cJ9_floorMod_7cf53) (maxL := 3) (ret := (some .int)) (by decide +kernel) rfl (Nat.le_of_ble_eq_true rfl) [(0, .int (nI v - 8)), (1, .int 8)] rfl rfl ?_
  intro p9 e9 s9 m9 b9 t9 c9 F hr
  refine cq_iload_n F (i := 0) dJ9_floorMod_7cf53_0 rfl rfl ?_
  refine cq_iload_n F (i := 1) dJ9_floorMod_7cf53_1 rfl rfl ?_
  refine cq_irem F dJ9_floorMod_7cf53_2 (by decide) ?_
  refine cq_istore_n F (i := 2) dJ9_floorMod_7cf53_3 rfl (by decide) ?_
  refine cq_iload_n F (i := 0) dJ9_floorMod_7cf53_4 rfl rfl ?_
  refine cq_iload_n F (i := 1) dJ9_floorMod_7cf53_5 rfl rfl ?_
  refine cq_ixor F dJ9_floorMod_7cf53_6 ?_
  refine cq_if_ge F (tgt := 18) dJ9_floorMod_7cf53_7 (by decide) (fun c_7 => ?_) (fun c_7 => ?_)
  · refine cq_iload_n F (i := 2) dJ9_floorMod_7cf53_18 rfl rfl ?_
    exact cq_iret F hr (by decide) (by decide) dJ9_floorMod_7cf53_19 ⟨_, rfl, ⟨sd_f1 v hv c_7, rfl⟩⟩
  · refine cq_iload_n F (i := 2) dJ9_floorMod_7cf53_10 rfl rfl ?_
    refine cq_if_eq F (tgt := 18) dJ9_floorMod_7cf53_11 (by decide) (fun c_11 => ?_) (fun c_11 => ?_)
    · refine cq_iload_n F (i := 2) dJ9_floorMod_7cf53_18 rfl rfl ?_
      exact cq_iret F hr (by decide) (by decide) dJ9_floorMod_7cf53_19 ⟨_, rfl, ⟨sd_f2 v hv c_7 c_11, rfl⟩⟩
    · refine cq_iload_n F (i := 2) dJ9_floorMod_7cf53_14 rfl rfl ?_
      refine cq_iload_n F (i := 1) dJ9_floorMod_7cf53_15 rfl rfl ?_
      refine cq_iadd F dJ9_floorMod_7cf53_16 ?_
      exact cq_iret F hr (by decide) (by decide) dJ9_floorMod_7cf53_17 ⟨_, rfl, ⟨sd_f3 v hv c_7 c_11, rfl⟩⟩
theorem hdVJ9_floorMod_7cf53 : yJ9_floorMod_7cf53.cls = RJ9 ∧ yJ9_floorMod_7cf53.cls ≠ "java/lang/invoke/MethodHandle" ∧ yJ9_floorMod_7cf53.cls ≠ "java/lang/invoke/VarHandle" ∧ (parseMethodDescriptor yJ9_floorMod_7cf53.desc).map (fun d => d.parameters.length) = some 2 := by decide +kernel
abbrev rmX0_kindText : Room := ({ frames := 0, cells := 0, slots := 0, locals := 0 })
set_option maxHeartbeats 4000000 in
set_option maxRecDepth 100000 in
theorem kX0_kindText (l : Launch) (D : va_G) (cA : Nat → ClassId) (X : cq_X) (Bs : Nat) (k : Nat) (M : cq_M) (hk : k ≤ 2) : cq_C l yX0_kindText wsX0_kindText rmX0_kindText D cA X Bs [.int (nI k)] M (cq_PR (fun a M1 => a = D.2 100 k ∧ M1 = M)) 0 0 := by
  refine cq_met (cc := cX0_kindText) (maxL := 1) (ret := (some (.object "java/lang/String"))) (by decide) rfl (Nat.le_of_ble_eq_true rfl) [(0, .int (nI k))] rfl rfl ?_
  intro p9 e9 s9 m9 b9 t9 c9 F hr
  refine cq_iload_n F (i := 0) dX0_kindText_0 rfl rfl ?_
  have sw_1 : k = 0 ∨ k = 1 ∨ k = 2 := by omega
  rcases sw_1 with sw_1 | sw_1 | sw_1
  · subst sw_1
    refine cq_lookup F (off := 27) (tgt := 28) dX0_kindText_1 (by decide) (by decide) (by decide) ?_
    refine cq_ldcS F (i := 0) rfl dX0_kindText_28 ?_
    exact cq_aret F hr (Or.inl ⟨_, rfl⟩) (by decide) (by decide) dX0_kindText_30 ⟨_, rfl, ⟨rfl, rfl⟩⟩
  · subst sw_1
    refine cq_lookup F (off := 30) (tgt := 31) dX0_kindText_1 (by decide) (by decide) (by decide) ?_
    refine cq_ldcS F (i := 1) rfl dX0_kindText_31 ?_
    exact cq_aret F hr (Or.inl ⟨_, rfl⟩) (by decide) (by decide) dX0_kindText_33 ⟨_, rfl, ⟨rfl, rfl⟩⟩
  · subst sw_1
    refine cq_lookup F (off := 33) (tgt := 34) dX0_kindText_1 (by decide) (by decide) (by decide) ?_
    refine cq_ldcS F (i := 2) rfl dX0_kindText_34 ?_
    exact cq_aret F hr (Or.inl ⟨_, rfl⟩) (by decide) (by decide) dX0_kindText_36 ⟨_, rfl, ⟨rfl, rfl⟩⟩
theorem hdVX0_kindText : yX0_kindText.cls = RX0 ∧ yX0_kindText.cls ≠ "java/lang/invoke/MethodHandle" ∧ yX0_kindText.cls ≠ "java/lang/invoke/VarHandle" ∧ (parseMethodDescriptor yX0_kindText.desc).map (fun d => d.parameters.length) = some 1 := by decide +kernel
abbrev rmX0_tell : Room := ({ frames := 5, cells := 0, slots := 0, locals := 178 })
set_option maxHeartbeats 4000000 in
set_option maxRecDepth 100000 in
theorem kX0_tell (l : Launch) (D : va_G) (cA : Nat → ClassId) (X : cq_X) (Bs : Nat) (k a q : Nat) (g : Nat → Nat) (M : cq_M) (hk : cq_isBook X k) (hq : cq_isSB X q) (hkq : k + 4 ≤ q) (hb : cr_book M k g) (h8 : g 84 ≤ 8) (ha : a < g 84) (hkd : g (85 + 3 * a) ≤ 2) (hst : g (86 + 3 * a) < 10000000) (hco : g (87 + 3 * a) < 4) (h : sb_ok M q 0 (fun _ => 0)) : cq_C l yX0_tell wsX0_tell rmX0_tell D cA X Bs [.ref k, .int (nI a), .ref q] M (cq_PV (fun M1 => sb_ok M1 q (cq_tl (g (85 + 3 * a)) + 3 + en_len (g (86 + 3 * a))) (en_f (g (85 + 3 * a)) (g (87 + 3 * a)) (g (86 + 3 * a))) ∧ sb_fr M M1 q)) 0 0 := by
  refine cq_met (cc := cX0_tell) (maxL := 4) (ret := none) (by decide) rfl (Nat.le_of_ble_eq_true rfl) [(0, .ref k), (1, .int (nI a)), (2, .ref q)] rfl rfl ?_
  intro p9 e9 s9 m9 b9 t9 c9 F hr
  have inX0 : ∀ w ∈ wsX00, w ∈ wsX0_tell := (fun w h => List.mem_cons_of_mem _ (List.mem_append_left _ (List.mem_append_right _ h)))
  obtain ⟨hb4, nx, hnx, hb3, hent⟩ := hb
  obtain ⟨he1, he2, he3⟩ := hent a ha
  have hlc := en_len_9 (n := g (87 + 3 * a)) (by omega)
  have hls := en_len_le (n := g (86 + 3 * a)) (k := 6) (by omega)
  have hlt : cq_tl (g (85 + 3 * a)) ≤ 5 := by
    obtain ⟨t0, t1, t2⟩ := sd_kt
    rcases (show g (85 + 3 * a) = 0 ∨ g (85 + 3 * a) = 1 ∨ g (85 + 3 * a) = 2 by omega) with e | e | e <;> rw [e] <;> omega
  refine cq_aload_n F (i := 0) dX0_tell_0 rfl rfl ?_
  refine cq_getI F (C := RX0) (T := TX0) (N := 5) (ci := 1) hk.kind rfl ⟨⟨by decide, by decide⟩, rfl⟩ inX0 3 (by decide) rfl rfl (F.1.2.2.2.2 _ (List.mem_of_getElem? (l := wsX0_tell) (i := 1) (a := .fieldLink RX0 21 "CordClock$Book" "next" "I") (by decide +kernel))) dX0_tell_1 ?_
  rw [show M k 3 = nI (nx) from (show M k 3 = nI (nx) from hb3)]
  refine cq_iconst F (v := 1) dX0_tell_4 rfl ?_
  refine cq_isub F dX0_tell_5 ?_
  refine cq_iload_n F (i := 1) dX0_tell_6 rfl rfl ?_
  refine cq_isub F dX0_tell_7 ?_
  rw [show (nI nx - 1 - nI a : Int32) = nI (nx + 7 - a) - 8 from sd_nx nx hnx a (by omega)]
  refine cq_bipush F (v := 8) dX0_tell_8 (by decide) ?_
  refine cq_callS F (kJ9_floorMod_7cf53 l D cA X Bs (nx + 7 - a) M (by omega)) (va_cwS 2 F.1.2.2.2.2 gX0_tell_J9_floorMod_7cf53 rfl rfl rfl hdVJ9_floorMod_7cf53.2 ⟨Nat.le_of_ble_eq_true rfl, Nat.le_of_ble_eq_true rfl⟩) rfl (Nat.le_of_ble_eq_true rfl) dX0_tell_10 ⟨Nat.le_of_ble_eq_true rfl, Nat.le_of_ble_eq_true rfl⟩ (cq_kIe ?_)
  refine cq_istore_n F (i := 3) dX0_tell_13 rfl (by decide) ?_
  refine cq_aload_n F (i := 2) dX0_tell_14 rfl rfl ?_
  refine cq_aload_n F (i := 0) dX0_tell_15 rfl rfl ?_
  refine cq_getT (t := (k + 1)) F (C := RX0) (T := TX0) (N := 5) (ci := 1) hk.kind rfl ⟨⟨by decide, by decide⟩, rfl⟩ inX0 0 (by decide) rfl rfl hk.t0 (F.1.2.2.2.2 _ (List.mem_of_getElem? (l := wsX0_tell) (i := 2) (a := .fieldLink RX0 9 "CordClock$Book" "kinds" "[I") (by decide +kernel))) dX0_tell_16 ?_
  refine cq_iload_n F (i := 3) dX0_tell_19 rfl rfl ?_
  refine cq_iald_j F (j := ((nx + 7 - a) % 8)) hk.k1 hk.n1 rfl ⟨(by omega), by decide⟩ dX0_tell_20 ?_
  rw [show M (k + 1) ((nx + 7 - a) % 8) = nI ((g (85 + 3 * a))) from ((congrFun (show M (k + 1) = M (k + 1) from rfl) _).trans he1)]
  refine cq_callS F (kX0_kindText l D cA X Bs (g (85 + 3 * a)) M hkd) (va_cwS 1 F.1.2.2.2.2 gX0_tell_X0_kindText rfl rfl rfl hdVX0_kindText.2 ⟨Nat.le_of_ble_eq_true rfl, Nat.le_of_ble_eq_true rfl⟩) rfl (Nat.le_of_ble_eq_true rfl) dX0_tell_21 ⟨Nat.le_of_ble_eq_true rfl, Nat.le_of_ble_eq_true rfl⟩ (cq_kRe ?_)
  refine cq_callV F (C := RJ4) (ci := 9) (kJ4_append_15ec4 l D cA X Bs q 0 (g (85 + 3 * a)) (fun _ => 0) M hq h (by omega) (by omega)) (cwV 1 F.1.2.2.2.2 gX0_tell_J4_append_15ec4 rfl rfl rfl hdVJ4_append_15ec4 ⟨Nat.le_of_ble_eq_true rfl, Nat.le_of_ble_eq_true rfl⟩) hq.kind ⟨by decide, by decide⟩ rfl rfl rfl (Nat.le_of_ble_eq_true rfl) dX0_tell_24 ⟨Nat.le_of_ble_eq_true rfl, Nat.le_of_ble_eq_true rfl⟩ (cq_kR fun a_24 M_24 h_24 => ?_)
  obtain ⟨ea_24, h_24⟩ := h_24
  replace ea_24 := ea_24.symm
  subst ea_24
  refine cq_bipush F (v := 32) dX0_tell_27 (by decide) ?_
  refine cq_callV F (C := RJ4) (ci := 9) (kJ4_append_cf468 l D cA X Bs q _ 32 _ M_24 hq h_24.1 (by decide) (by omega)) (cwV 1 F.1.2.2.2.2 gX0_tell_J4_append_cf468 rfl rfl rfl hdVJ4_append_cf468 ⟨Nat.le_of_ble_eq_true rfl, Nat.le_of_ble_eq_true rfl⟩) hq.kind ⟨by decide, by decide⟩ rfl rfl rfl (Nat.le_of_ble_eq_true rfl) dX0_tell_29 ⟨Nat.le_of_ble_eq_true rfl, Nat.le_of_ble_eq_true rfl⟩ (cq_kR fun a_29 M_29 h_29 => ?_)
  obtain ⟨ea_29, h_29⟩ := h_29
  replace ea_29 := ea_29.symm
  subst ea_29
  refine cq_aload_n F (i := 0) dX0_tell_32 rfl rfl ?_
  refine cq_getT (t := (k + 3)) F (C := RX0) (T := TX0) (N := 5) (ci := 1) hk.kind rfl ⟨⟨by decide, by decide⟩, rfl⟩ inX0 2 (by decide) rfl rfl hk.t2 (F.1.2.2.2.2 _ (List.mem_of_getElem? (l := wsX0_tell) (i := 3) (a := .fieldLink RX0 18 "CordClock$Book" "cords" "[I") (by decide +kernel))) dX0_tell_33 ?_
  refine cq_iload_n F (i := 3) dX0_tell_36 rfl rfl ?_
  refine cq_iald_j F (j := ((nx + 7 - a) % 8)) hk.k3 hk.n3 rfl ⟨(by omega), by decide⟩ dX0_tell_37 ?_
  rw [show M_29 (k + 3) ((nx + 7 - a) % 8) = nI ((g (87 + 3 * a))) from ((congrFun (show M_29 (k + 3) = M (k + 3) from ((h_29.2 _ (by omega) (by omega)).trans (h_24.2 _ (by omega) (by omega)))) _).trans he3)]
  refine cq_callV F (C := RJ4) (ci := 9) (kJ4_append_bf812 l D cA X Bs q _ (g (87 + 3 * a)) _ M_29 hq h_29.1 (by omega) (by omega)) (cwV 1 F.1.2.2.2.2 gX0_tell_J4_append_bf812 rfl rfl rfl hdVJ4_append_bf812 ⟨Nat.le_of_ble_eq_true rfl, Nat.le_of_ble_eq_true rfl⟩) hq.kind ⟨by decide, by decide⟩ rfl rfl rfl (Nat.le_of_ble_eq_true rfl) dX0_tell_38 ⟨Nat.le_of_ble_eq_true rfl, Nat.le_of_ble_eq_true rfl⟩ (cq_kR fun a_38 M_38 h_38 => ?_)
  obtain ⟨ea_38, h_38⟩ := h_38
  replace ea_38 := ea_38.symm
  subst ea_38
  refine cq_pop F dX0_tell_41 rfl ?_
  refine cq_aload_n F (i := 2) dX0_tell_42 rfl rfl ?_
  refine cq_bipush F (v := 64) dX0_tell_43 (by decide) ?_
  refine cq_callV F (C := RJ4) (ci := 9) (kJ4_append_cf468 l D cA X Bs q _ 64 _ M_38 hq h_38.1 (by decide) (by omega)) (cwV 1 F.1.2.2.2.2 gX0_tell_J4_append_cf468 rfl rfl rfl hdVJ4_append_cf468 ⟨Nat.le_of_ble_eq_true rfl, Nat.le_of_ble_eq_true rfl⟩) hq.kind ⟨by decide, by decide⟩ rfl rfl rfl (Nat.le_of_ble_eq_true rfl) dX0_tell_45 ⟨Nat.le_of_ble_eq_true rfl, Nat.le_of_ble_eq_true rfl⟩ (cq_kR fun a_45 M_45 h_45 => ?_)
  obtain ⟨ea_45, h_45⟩ := h_45
  replace ea_45 := ea_45.symm
  subst ea_45
  refine cq_aload_n F (i := 0) dX0_tell_48 rfl rfl ?_
  refine cq_getT (t := (k + 2)) F (C := RX0) (T := TX0) (N := 5) (ci := 1) hk.kind rfl ⟨⟨by decide, by decide⟩, rfl⟩ inX0 1 (by decide) rfl rfl hk.t1 (F.1.2.2.2.2 _ (List.mem_of_getElem? (l := wsX0_tell) (i := 4) (a := .fieldLink RX0 15 "CordClock$Book" "steps" "[I") (by decide +kernel))) dX0_tell_49 ?_
  refine cq_iload_n F (i := 3) dX0_tell_52 rfl rfl ?_
  refine cq_iald_j F (j := ((nx + 7 - a) % 8)) hk.k2 hk.n2 rfl ⟨(by omega), by decide⟩ dX0_tell_53 ?_
  rw [show M_45 (k + 2) ((nx + 7 - a) % 8) = nI ((g (86 + 3 * a))) from ((congrFun (show M_45 (k + 2) = M (k + 2) from ((h_45.2 _ (by omega) (by omega)).trans ((h_38.2 _ (by omega) (by omega)).trans ((h_29.2 _ (by omega) (by omega)).trans (h_24.2 _ (by omega) (by omega)))))) _).trans he2)]
  refine cq_callV F (C := RJ4) (ci := 9) (kJ4_append_bf812 l D cA X Bs q _ (g (86 + 3 * a)) _ M_45 hq h_45.1 (by omega) (by omega)) (cwV 1 F.1.2.2.2.2 gX0_tell_J4_append_bf812 rfl rfl rfl hdVJ4_append_bf812 ⟨Nat.le_of_ble_eq_true rfl, Nat.le_of_ble_eq_true rfl⟩) hq.kind ⟨by decide, by decide⟩ rfl rfl rfl (Nat.le_of_ble_eq_true rfl) dX0_tell_54 ⟨Nat.le_of_ble_eq_true rfl, Nat.le_of_ble_eq_true rfl⟩ (cq_kR fun a_54 M_54 h_54 => ?_)
  obtain ⟨ea_54, h_54⟩ := h_54
  replace ea_54 := ea_54.symm
  subst ea_54
  refine cq_pop F dX0_tell_57 rfl ?_
  refine cq_vret F hr (by decide) (by decide) dX0_tell_58 ⟨rfl, ?_⟩
  refine ⟨?_, fun x h1 h2 => by rw [h_54.2 x h1 h2, h_45.2 x h1 h2, h_38.2 x h1 h2, h_29.2 x h1 h2, h_24.2 x h1 h2]⟩
  have hz := h_54.1
  rw [hlc, show 0 + cq_tl (g (85 + 3 * a)) + 1 + 1 + 1 + en_len (g (86 + 3 * a)) = cq_tl (g (85 + 3 * a)) + 3 + en_len (g (86 + 3 * a)) by omega] at hz
  unfold en_f
  rw [hlc]
  rw [Nat.zero_add] at hz
  exact hz
theorem hdVX0_tell : yX0_tell.cls = RX0 ∧ yX0_tell.cls ≠ "java/lang/invoke/MethodHandle" ∧ yX0_tell.cls ≠ "java/lang/invoke/VarHandle" ∧ (parseMethodDescriptor yX0_tell.desc).map (fun d => d.parameters.length) = some 2 := by decide +kernel
