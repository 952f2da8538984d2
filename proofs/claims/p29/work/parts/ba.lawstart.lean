/-! the law's start: what the words give -/
theorem w9_zin : Cond.selects RJ4 yJ5_isLatin1_aae02 yJ5_isLatin1_aae02 ∈ lw_tbl := by decide +kernel
theorem w9_iin : Cond.instantiable RJ4 4 ∈ lw_tbl := by decide +kernel
theorem w9_x0 : Cond.privateMethod yJ5_appendNull_278bc ∈ lw_tbl ∧ Cond.instanceMethod yJ5_appendNull_278bc ∈ lw_tbl := ⟨by decide +kernel, by decide +kernel⟩
theorem w9_x1 : Cond.privateMethod yJ5_ensureCapacityInternal_d00df ∈ lw_tbl ∧ Cond.instanceMethod yJ5_ensureCapacityInternal_d00df ∈ lw_tbl := ⟨by decide +kernel, by decide +kernel⟩
theorem w9_x2 : Cond.privateMethod yJ5_inflate_da8c8 ∈ lw_tbl ∧ Cond.instanceMethod yJ5_inflate_da8c8 ∈ lw_tbl := ⟨by decide +kernel, by decide +kernel⟩
theorem w9_x3 : Cond.privateMethod yJ5_inflateIfNeededFor_a7421 ∈ lw_tbl ∧ Cond.instanceMethod yJ5_inflateIfNeededFor_a7421 ∈ lw_tbl := ⟨by decide +kernel, by decide +kernel⟩
theorem w9_x4 : Cond.privateMethod yJ5_newCapacity_0f7a4 ∈ lw_tbl ∧ Cond.instanceMethod yJ5_newCapacity_0f7a4 ∈ lw_tbl := ⟨by decide +kernel, by decide +kernel⟩
theorem w9_x5 : Cond.privateMethod yJ5_putStringAt_47b60 ∈ lw_tbl ∧ Cond.instanceMethod yJ5_putStringAt_47b60 ∈ lw_tbl := ⟨by decide +kernel, by decide +kernel⟩
theorem w9_hts {args : Array Value} {s : State} (hts : ∀ w ∈ lw_tbl, w.before args s = true) : ∀ w ∈ w9_tbl, w.before args s = true := by
  have h6 : ∀ w ∈ w9_six, w.before args s = true := by
    unfold w9_six
    exact (List.forall_mem_cons.mpr ⟨w9_sel (z := yJ5_isLatin1_aae02) ⟨by decide +kernel, by decide +kernel⟩ rfl (hts _ w9_iin) (hts _ w9_x0.1) (hts _ w9_x0.2) (hts _ w9_zin), (List.forall_mem_cons.mpr ⟨w9_sel (z := yJ5_isLatin1_aae02) ⟨by decide +kernel, by decide +kernel⟩ rfl (hts _ w9_iin) (hts _ w9_x1.1) (hts _ w9_x1.2) (hts _ w9_zin), (List.forall_mem_cons.mpr ⟨w9_sel (z := yJ5_isLatin1_aae02) ⟨by decide +kernel, by decide +kernel⟩ rfl (hts _ w9_iin) (hts _ w9_x2.1) (hts _ w9_x2.2) (hts _ w9_zin), (List.forall_mem_cons.mpr ⟨w9_sel (z := yJ5_isLatin1_aae02) ⟨by decide +kernel, by decide +kernel⟩ rfl (hts _ w9_iin) (hts _ w9_x3.1) (hts _ w9_x3.2) (hts _ w9_zin), (List.forall_mem_cons.mpr ⟨w9_sel (z := yJ5_isLatin1_aae02) ⟨by decide +kernel, by decide +kernel⟩ rfl (hts _ w9_iin) (hts _ w9_x4.1) (hts _ w9_x4.2) (hts _ w9_zin), (List.forall_mem_cons.mpr ⟨w9_sel (z := yJ5_isLatin1_aae02) ⟨by decide +kernel, by decide +kernel⟩ rfl (hts _ w9_iin) (hts _ w9_x5.1) (hts _ w9_x5.2) (hts _ w9_zin), (fun _ h => absurd h List.not_mem_nil)⟩)⟩)⟩)⟩)⟩)⟩)
  exact List.forall_mem_append.mpr ⟨h6, hts⟩
theorem w9_arrc {args : Array Value} {s : State} {ty : FieldType} (h : (Cond.arrayClass ty).before args s = true) (hno : ∀ C, ty ≠ .object C) : ∃ c : ClassId, ArrOfT s c ty ∧ va_RA s c ty := by
  obtain ⟨c9, k9, comp, h1, h2, h3⟩ := Cond.arrayClass_spec h
  refine ⟨c9, fun n z => ⟨fun k h => (by cases h), k9, h2, comp, h3⟩, ?_⟩
  cases ty with
  | object C => exact absurd rfl (hno C)
  | _ => exact h1
theorem w9_arro {args : Array Value} {s : State} {C : String} (h : (Cond.arrayOver (.object C)).before args s = true) : ∃ c : ClassId, ArrOfT s c (.object C) ∧ va_RA s c (.object C) := by
  obtain ⟨comp, c9, k9, h1, h2, h3, h4, h5⟩ := Cond.arrayOver_spec h
  exact ⟨c9, fun n z => ⟨fun k h => (by cases h), k9, h3, comp, h4⟩, k9, comp, h3, h4, h1, h5⟩
theorem w9_arra {args : Array Value} {s : State} {ty : FieldType} (h : (Cond.arrayOver (.array ty)).before args s = true) : ∃ c : ClassId, ArrOfT s c (.array ty) ∧ va_RA s c (.array ty) := by
  unfold Cond.before Cond.holds at h
  simp only [Cond.value, beq_iff_eq] at h
  cases hc : s.vm.findClass (FieldType.array ty).toString with
  | none => simp [hc] at h
  | some comp =>
    simp only [hc, Option.bind_some, Option.bind_eq_some_iff, Option.map_eq_some_iff] at h
    obtain ⟨c9, hi, k9, hk, hb⟩ := h
    obtain ⟨hlt, hp, -⟩ := Array.findIdx?_eq_some_iff_getElem.mp hi
    have hkk : s.vm.classes[c9] = k9 := (Array.getElem?_eq_some_iff.mp hk).2
    rw [hkk] at hp
    cases hkind : k9.kind with
    | array component ty2 =>
      rw [hkind] at hb hp
      simp at hb hp
      obtain ⟨hb1, hb2⟩ := hb
      subst hp
      subst hb1
      exact ⟨c9, fun n z => ⟨fun k h => (by cases h), k9, hk, _, hkind⟩, hb2⟩
    | _ => rw [hkind] at hb; simp at hb
theorem w9_nJ4 : Cond.instantiable RJ4 4 ∈ lw_tbl := by decide +kernel
theorem w9_nX0 : Cond.instantiable RX0 5 ∈ lw_tbl := by decide +kernel
theorem w9_nX1 : Cond.instantiable RX1 8 ∈ lw_tbl := by decide +kernel
theorem w9_nX2 : Cond.instantiable RX2 10 ∈ lw_tbl := by decide +kernel
theorem w9_nX3 : Cond.instantiable RX3 4 ∈ lw_tbl := by decide +kernel
theorem w9_nX4 : Cond.instantiable RX4 4 ∈ lw_tbl := by decide +kernel
theorem w9_nX5 : Cond.instantiable RX5 11 ∈ lw_tbl := by decide +kernel
theorem w9_nX6 : Cond.instantiable RX6 9 ∈ lw_tbl := by decide +kernel
theorem w9_G {args : Array Value} {s : State} (hl : ∀ w ∈ wsL_law, w.before args s = true) (ht : ∀ w ∈ lw_tbl, w.before args s = true) : ∃ (dC : Nat → ClassId) (dI : Nat → Nat → Nat), ∀ (k : Nat) (q : vw_C), vwCl[k]? = some q → u_Kn s q.1 q.2.1 q.2.2 (dC k) (dI k) := by
  obtain ⟨c0, i0, h0⟩ := u_known (C := RJ4) (T := TJ4) (N := 4) (n := 4) hl inlJ4 (ht _ w9_nJ4)
  obtain ⟨c1, i1, h1⟩ := u_known (C := RX0) (T := TX0) (N := 5) (n := 5) hl inlX0 (ht _ w9_nX0)
  obtain ⟨c2, i2, h2⟩ := u_known (C := RX1) (T := TX1) (N := 8) (n := 8) hl inlX1 (ht _ w9_nX1)
  obtain ⟨c3, i3, h3⟩ := u_known (C := RX2) (T := TX2) (N := 10) (n := 10) hl inlX2 (ht _ w9_nX2)
  obtain ⟨c4, i4, h4⟩ := u_known (C := RX3) (T := TX3) (N := 4) (n := 4) hl inlX3 (ht _ w9_nX3)
  obtain ⟨c5, i5, h5⟩ := u_known (C := RX4) (T := TX4) (N := 4) (n := 4) hl inlX4 (ht _ w9_nX4)
  obtain ⟨c6, i6, h6⟩ := u_known (C := RX5) (T := TX5) (N := 11) (n := 11) hl inlX5 (ht _ w9_nX5)
  obtain ⟨c7, i7, h7⟩ := u_known (C := RX6) (T := TX6) (N := 9) (n := 9) hl inlX6 (ht _ w9_nX6)
  refine ⟨fun k => match k with | 0 => c0 | 1 => c1 | 2 => c2 | 3 => c3 | 4 => c4 | 5 => c5 | 6 => c6 | 7 => c7 | _ => c0, fun k => match k with | 0 => i0 | 1 => i1 | 2 => i2 | 3 => i3 | 4 => i4 | 5 => i5 | 6 => i6 | 7 => i7 | _ => i0, fun k q hq => ?_⟩
  match k, hq with
  | 0, hq => cases hq; exact h0
  | 1, hq => cases hq; exact h1
  | 2, hq => cases hq; exact h2
  | 3, hq => cases hq; exact h3
  | 4, hq => cases hq; exact h4
  | 5, hq => cases hq; exact h5
  | 6, hq => cases hq; exact h6
  | 7, hq => cases hq; exact h7
  | 8, hq => cases hq; exact h0
  | 9, hq => cases hq; exact h0
  | k + 10, hq => simp [vwCl] at hq
theorem w9_a0 : Cond.arrayClass .int ∈ lw_tbl := by decide +kernel
theorem w9_a1 : Cond.arrayClass .char ∈ lw_tbl := by decide +kernel
theorem w9_a2 : Cond.arrayClass .boolean ∈ lw_tbl := by decide +kernel
theorem w9_a3 : Cond.arrayOver (.object "CordClock$Cord") ∈ lw_tbl := by decide +kernel
theorem w9_a4 : Cond.arrayOver (.object "CordClock$Rule") ∈ lw_tbl := by decide +kernel
theorem w9_a5 : Cond.arrayOver (.object "CordClock$State") ∈ lw_tbl := by decide +kernel
theorem w9_a6 : Cond.arrayOver (.array .int) ∈ lw_tbl := by decide +kernel
theorem w9_a7 : Cond.arrayClass .int ∈ lw_tbl := by decide +kernel
theorem w9_a8 : Cond.arrayClass .byte ∈ lw_tbl := by decide +kernel
theorem w9_A {args : Array Value} {s : State} (ht : ∀ w ∈ lw_tbl, w.before args s = true) : ∃ cA : Nat → ClassId, ∀ (k : Nat) (q : ClassId × FieldType), (cq_tys cA)[k]? = some q → ArrOfT s q.1 q.2 ∧ va_RA s q.1 q.2 := by
  obtain ⟨c0, h0⟩ := w9_arrc (ht _ w9_a0) (fun C h => by cases h)
  obtain ⟨c1, h1⟩ := w9_arrc (ht _ w9_a1) (fun C h => by cases h)
  obtain ⟨c2, h2⟩ := w9_arrc (ht _ w9_a2) (fun C h => by cases h)
  obtain ⟨c3, h3⟩ := w9_arro (ht _ w9_a3)
  obtain ⟨c4, h4⟩ := w9_arro (ht _ w9_a4)
  obtain ⟨c5, h5⟩ := w9_arro (ht _ w9_a5)
  obtain ⟨c6, h6⟩ := w9_arra (ht _ w9_a6)
  obtain ⟨c7, h7⟩ := w9_arrc (ht _ w9_a7) (fun C h => by cases h)
  obtain ⟨c8, h8⟩ := w9_arrc (ht _ w9_a8) (fun C h => by cases h)
  refine ⟨fun k => match k with | 0 => c0 | 1 => c1 | 2 => c2 | 3 => c3 | 4 => c4 | 5 => c5 | 6 => c6 | 7 => c7 | 8 => c8 | _ => c0, fun k q hq => ?_⟩
  match k, hq with
  | 0, hq => cases hq; exact h0
  | 1, hq => cases hq; exact h1
  | 2, hq => cases hq; exact h2
  | 3, hq => cases hq; exact h3
  | 4, hq => cases hq; exact h4
  | 5, hq => cases hq; exact h5
  | 6, hq => cases hq; exact h6
  | 7, hq => cases hq; exact h7
  | 8, hq => cases hq; exact h8
  | k + 9, hq => simp [cq_tys] at hq
theorem w9_O {args : Array Value} {s : State} (ht : ∀ w ∈ lw_tbl, w.before args s = true) : cn_O s := ⟨va_AO.of (ht _ w9_a3), va_AO.of (ht _ w9_a4), va_AO.of (ht _ w9_a5), ht _ w9_a6⟩
theorem w9_t0 : ∀ q ∈ cq_tx, Cond.stringRef q.1 q.2.1 q.2.2.1 ∈ lw_tbl := by decide +kernel
theorem w9_s0 : ∀ q ∈ cq_sr, Cond.stringRef q.1 q.2.1 q.2.2 ∈ lw_tbl := by decide +kernel
theorem w9_nf : ∀ q ∈ cq_nf, Cond.fieldLinkNest q.1 q.2.1 q.2.2.1 q.2.2.2.1 q.2.2.2.2.1 q.2.2.2.2.2 ∈ lw_tbl := by decide +kernel
theorem w9_nm : ∀ q ∈ cq_nm, Cond.methodLinkNest q.1 q.2.1 q.2.2.1 q.2.2.2 ∈ lw_tbl := by decide +kernel
theorem w9_dw : ∀ x ∈ cq_dw, Cond.declares x ∈ lw_tbl := by decide +kernel
theorem w9_kw : ∀ q ∈ cq_kw, Cond.castable q.1 q.2 ∈ lw_tbl := by decide +kernel
theorem w9_lu : Cond.laysStatic Bundle.tN "UNASSIGNED_STACK" Bundle.steD ∈ lw_tbl ∧ Cond.initialized Bundle.tN ∈ lw_tbl := ⟨by decide +kernel, by decide +kernel⟩
theorem w9_lp : Cond.laysStatic Bundle.tN "SUPPRESSED_SENTINEL" Bundle.listD ∈ lw_tbl ∧ Cond.initialized Bundle.tN ∈ lw_tbl := ⟨by decide +kernel, by decide +kernel⟩
theorem w9_lc : Cond.laysStatic "java/lang/String" "COMPACT_STRINGS" "Z" ∈ lw_tbl ∧ Cond.initialized "java/lang/String" ∈ lw_tbl := ⟨by decide +kernel, by decide +kernel⟩
theorem w9_lf : Cond.laysStatic "jdk/internal/util/Preconditions" "SIOOBE_FORMATTER" "Ljava/util/function/BiFunction;" ∈ lw_tbl ∧ Cond.initialized "jdk/internal/util/Preconditions" ∈ lw_tbl := ⟨by decide +kernel, by decide +kernel⟩
theorem w9_lo : Cond.laysStatic "java/lang/Integer" "DigitOnes" "[B" ∈ lw_tbl ∧ Cond.initialized "java/lang/Integer" ∈ lw_tbl := ⟨by decide +kernel, by decide +kernel⟩
theorem w9_lt : Cond.laysStatic "java/lang/Integer" "DigitTens" "[B" ∈ lw_tbl ∧ Cond.initialized "java/lang/Integer" ∈ lw_tbl := ⟨by decide +kernel, by decide +kernel⟩
theorem w9_tx {args : Array Value} {s : State} (ht : ∀ w ∈ lw_tbl, w.before args s = true) (hf : ∀ w ∈ w9_fl, w.before args s = true) : ∀ i : Nat, ∃ a : Nat × Nat, ∀ q : String × Nat × String × Nat × List Int32, cq_tx[i]? = some q → vk_S 1 [q.2.2.2.1] [q.2.2.2.2] (fun _ => a.1) (fun _ => a.2) (fun a => s.heap.size ≤ a) s s.heap ∧ vk_R q.1 q.2.1 q.2.2.1 a.1 s := by
  intro i
  cases hq : cq_tx[i]? with
  | none => exact ⟨(0, 0), fun q h => by cases h⟩
  | some q =>
    have hm : q ∈ cq_tx := List.mem_of_getElem? hq
    obtain ⟨adK, adV, h1, h2⟩ := vk_Sof (args := args) (s := s) (N := 1) (tm := fun _ => .string q.1 q.2.1) (len := [q.2.2.2.1]) (byt := [q.2.2.2.2]) (A := fun a => s.heap.size ≤ a)
      (fun i hi => by obtain rfl : i = 0 := by omega
                      exact w9_t1 q hm) (fun i _ => hf _ (w9_t2 q hm)) (fun i _ => hf _ (w9_t3 q hm)) (fun i _ => hf _ (w9_t4 q hm))
      (fun i hi => by obtain rfl : i = 0 := by omega
                      exact hf _ (w9_t5 q hm))
      (fun i hi j hj => by obtain rfl : i = 0 := by omega
                           exact hf _ (w9_t6 q hm j hj)) (fun i j hi hj h => absurd (show i = j by omega) h) (fun a h => Nat.not_le.mpr h)
    refine ⟨(adK 0, adV 0), fun q2 h => ?_⟩
    cases h
    refine ⟨⟨fun i hi => ?_, fun i j hi hj _ => by omega⟩, vk_R.of (ht _ (w9_t0 q hm)) (h2 0 (by decide))⟩
    obtain rfl : i = 0 := by omega
    exact h1.1 0 hi
theorem w9_E {args : Array Value} {s : State} (ht : ∀ w ∈ lw_tbl, w.before args s = true) (hf : ∀ w ∈ w9_fl, w.before args s = true) : ∃ aK aV aT : Nat → Nat, ∀ D : va_G, D.2 100 = aK → D.2 101 = aV → D.2 102 = aT → cq_E D s.heap.size s := by
  have hA : ∀ a : Nat, a < s.heap.size → ¬ s.heap.size ≤ a := fun a h => Nat.not_le.mpr h
  obtain ⟨f9, hf9⟩ := Classical.axiomOfChoice (w9_tx ht hf)
  obtain ⟨t1, o1, o2⟩ := va_Tof (args := args) (s := s) (tm := .static "java/lang/Integer" "DigitOnes" "[B") (ty := .byte) (N := 100) (f := fun j => .int (Int32.ofNat (48 + j % 10))) (A := fun a => s.heap.size ≤ a) (by decide) (hf _ w9_do1) (va_eqt (hf _ w9_do2)) (fun j hj => va_eqt (hf _ (w9_do3 j hj))) hA
  obtain ⟨t2, p1, p2⟩ := va_Tof (args := args) (s := s) (tm := .static "java/lang/Integer" "DigitTens" "[B") (ty := .byte) (N := 100) (f := fun j => .int (Int32.ofNat (48 + j / 10))) (A := fun a => s.heap.size ≤ a) (by decide) (hf _ w9_dt1) (va_eqt (hf _ w9_dt2)) (fun j hj => va_eqt (hf _ (w9_dt3 j hj))) hA
  refine ⟨fun i => (f9 i).1, fun i => (f9 i).2, fun i => if i = 0 then t1 else t2, fun D e1 e2 e3 => ?_⟩
  refine ⟨fun q hq => va_Nw.of rfl (ht _ (w9_nf q hq)), fun q hq => va_Nw.of rfl (ht _ (w9_nm q hq)), fun q hq => ?_, vx_Zqof (ht _ w9_lu.1) (ht _ w9_lu.2) (hf _ w9_ru) hA, vx_Zqof (ht _ w9_lp.1) (ht _ w9_lp.2) (hf _ w9_rp) hA, fun i q hq => ?_, fun x hx => va_Nw.of rfl (ht _ (w9_dw x hx)), fun q hq => va_Nw.of rfl (ht _ (w9_kw q hq)), va_Zof (ht _ w9_lc.1) (ht _ w9_lc.2) (va_eqt (hf _ w9_rc)) hA, va_Zqof (ht _ w9_lf.1) (ht _ w9_lf.2) (hf _ w9_rf) hA, ?_, ?_, fun q hq => va_Nc.of (hf _ (w9_nk q hq))⟩
  · obtain ⟨a, c9, cA, kA, q1, -⟩ := Cond.exactly_spec (args := args) (first := s) (o := none) (s := s) (idx := []) (t := .string q.1 q.2.1) (cls := "java/lang/String") (hf _ (w9_s2 q hq))
    exact ⟨a, vk_R.of (ht _ (w9_s0 q hq)) q1⟩
  · rw [e1, e2]
    exact hf9 i q hq
  · rw [e3]
    exact ⟨va_Zof (ht _ w9_lo.1) (ht _ w9_lo.2) o1 hA, o2⟩
  · rw [e3]
    exact ⟨va_Zof (ht _ w9_lt.1) (ht _ w9_lt.2) p1 hA, p2⟩
/-- D, the classes of the arrays, the facts -/
theorem w9_D {args : Array Value} {s : State} (hl : ∀ w ∈ wsL_law, w.before args s = true) (ht : ∀ w ∈ lw_tbl, w.before args s = true) (hf : ∀ w ∈ w9_fl, w.before args s = true) : ∃ (D : va_G) (cA : Nat → ClassId), va_K D vwCl (cq_tys cA) s ∧ cq_E D s.heap.size s := by
  obtain ⟨dC, dI, hG⟩ := w9_G hl ht
  obtain ⟨cA, hA⟩ := w9_A ht
  obtain ⟨aK, aV, aT, hE⟩ := w9_E ht hf
  refine ⟨(dC, fun k => if k = 100 then aK else if k = 101 then aV else if k = 102 then aT else dI k), cA, ⟨fun k q hq => ?_, hA⟩, hE _ (by show (if (100 : Nat) = 100 then aK else if (100 : Nat) = 101 then aV else if (100 : Nat) = 102 then aT else dI 100) = aK; exact if_pos rfl) (by show (if (101 : Nat) = 100 then aK else if (101 : Nat) = 101 then aV else if (101 : Nat) = 102 then aT else dI 101) = aV; rw [if_neg (by decide), if_pos rfl]) (by show (if (102 : Nat) = 100 then aK else if (102 : Nat) = 101 then aV else if (102 : Nat) = 102 then aT else dI 102) = aT; rw [if_neg (by decide), if_neg (by decide), if_pos rfl])⟩
  have hk : k < 10 := (List.getElem?_eq_some_iff.mp hq).1
  show u_Kn s q.1 q.2.1 q.2.2 (dC k) (if k = 100 then aK else if k = 101 then aV else if k = 102 then aT else dI k)
  rw [if_neg (by omega), if_neg (by omega), if_neg (by omega)]
  exact hG k q hq
