/-! the class: entry -/
abbrev rmX6_entry : Room := ({ frames := 6, cells := 2, slots := 20, locals := 201 })
set_option maxHeartbeats 4000000 in
set_option maxRecDepth 100000 in
theorem kX6_entry (l : Launch) (hl : l.stackTraces = false) (D : va_G) (cA : Nat → ClassId) (X : cq_X) (Bs : Nat) (b B : Nat) (S : as_T) (u v : Int32) (M : cq_M) (hb : cq_isClock X b) (h : ck M b S) (hk : as_ok S B) (hB : B < 10000000) : cq_T l yX6_entry wsX6_entry rmX6_entry D cA X Bs [.ref b, .int u, .int v] M (cq_PI (fun r M1 => cw (op_entry S u v) r M M1 b ∧ M1 = M)) (fun E M1 => cx (op_entry S u v) S [xA] E M M1) 2 20 := by
  refine cq_met9 (cc := cX6_entry) (maxL := 4) (ret := (some .int)) (by decide) rfl (Nat.le_of_ble_eq_true rfl) [(0, .ref b), (1, .int u), (2, .int v)] rfl rfl ?_
  intro p9 e9 s9 m9 b9 t9 c9 F hr hex
  have inJ4 : ∀ w ∈ wsJ40, w ∈ wsX6_entry := (fun w h => List.mem_cons_of_mem _ (List.mem_append_left _ (List.mem_append_right _ h)))
  have inX0 : ∀ w ∈ wsX00, w ∈ wsX6_entry := (fun w h => List.mem_cons_of_mem _ (List.mem_append_left _ (List.mem_append_left _ (List.mem_append_right _ h))))
  have inX5 : ∀ w ∈ wsX50, w ∈ wsX6_entry := (fun w h => List.mem_cons_of_mem _ (List.mem_append_left _ (List.mem_append_left _ (List.mem_append_left _ (List.mem_append_right _ h)))))
  have inX6 : ∀ w ∈ wsX60, w ∈ wsX6_entry := (fun w h => List.mem_cons_of_mem _ (List.mem_append_left _ (List.mem_append_left _ (List.mem_append_left _ (List.mem_append_left _ (List.mem_append_right _ h))))))
  have hk84 := hk.1.2.2.1
  refine cq_iload_n F (i := 1) dX6_entry_0 rfl rfl ?_
  refine cq_if_lt F (tgt := 8) dX6_entry_1 (by decide) (fun c_1 => ?_) (fun c_1 => ?_)
  · refine cq_throwW F hl hex (by decide +kernel) (F.1.2.2.2.2 _ (List.mem_of_getElem? (l := wsX6_entry) (i := 1) (a := .classLink RX6 48 "java/lang/IllegalArgumentException") (by decide +kernel))) (F.1.2.2.2.2 _ (List.mem_of_getElem? (l := wsX6_entry) (i := 2) (a := .initialized "java/lang/IllegalArgumentException") (by decide +kernel))) (List.mem_of_getElem? (l := cq_sr) (i := 13) rfl) (fun w h => F.1.2.2.2.2 w ((fun w h => List.mem_cons_of_mem _ (List.mem_append_right _ h)) w h)) xn_48_52 xg_48_52 dX6_entry_8 dX6_entry_11 dX6_entry_12 dX6_entry_15 dX6_entry_18 ⟨by decide, Nat.le_of_ble_eq_true rfl, by decide, by decide⟩ ⟨by decide, by decide⟩ ?_
    exact (cx_of (k := 0) (if_neg (fun z => by first | exact absurd c_1 (Int32.not_lt.mpr z.1) | exact c_5 z.2)) rfl rfl)
  · refine cq_iload_n F (i := 2) dX6_entry_4 rfl rfl ?_
    refine cq_if_ge F (tgt := 19) dX6_entry_5 (by decide) (fun c_5 => ?_) (fun c_5 => ?_)
    · refine cq_iload_n F (i := 1) dX6_entry_19 rfl rfl ?_
      refine cq_aload_n F (i := 0) dX6_entry_20 rfl rfl ?_
      refine cq_getT (t := (b + 1)) F (C := RX6) (T := TX6) (N := 9) (ci := 7) hb.kind rfl ⟨⟨by decide, by decide⟩, rfl⟩ inX6 0 (by decide) rfl rfl hb.t0 (F.1.2.2.2.2 _ (List.mem_of_getElem? (l := wsX6_entry) (i := 3) (a := .fieldLink RX6 10 "CordClock" "now" "LCordClock$State;") (by decide +kernel))) dX6_entry_21 ?_
      refine cq_getTN (t := ((b + 1) + 3)) F (C := RX5) (T := TX5) (N := 11) (ci := 6) hb.now.kind rfl ⟨⟨by decide, by decide⟩, rfl⟩ inX5 4 (by decide) rfl rfl hb.now.t4 (cq_nfw F.2.2.2.2 (List.mem_of_getElem? (l := cq_nf) (i := 22) rfl)) dX6_entry_24 ?_
      refine cq_getIN F (C := RX0) (T := TX0) (N := 5) (ci := 1) hb.now.book.kind rfl ⟨⟨by decide, by decide⟩, rfl⟩ inX0 4 (by decide) rfl rfl (cq_nfw F.2.2.2.2 (List.mem_of_getElem? (l := cq_nf) (i := 23) rfl)) dX6_entry_27 ?_
      rw [h.1.2.2.2.1.1]
      refine cq_icmp_lt F (tgt := 35) dX6_entry_30 (by decide) (fun c_30 => ?_) (fun c_30 => ?_)
      · have c_30b := c_30
        obtain ⟨a, ha, rfl⟩ := nI_cd (n := S_g S 84) (by omega) ⟨Int32.not_lt.mp c_1, c_30b⟩
        obtain ⟨i, hi, rfl⟩ := nI_of (Int32.not_lt.mpr c_5)
        have hz := hk.1.2.2.2.2.2.1 a ha
        have hB2 := hk.1.2.2.2.2.2.2.1
        have e9 : (nI a).toNatClampNeg = a := nI_clamp (by omega)
        have e8 : (nI i).toNatClampNeg = i := nI_clamp (by omega)
        have hls := en_len_le (n := S_g S (86 + 3 * a)) (k := 6) (by omega)
        have hl5 : cq_tl (S_g S (85 + 3 * a)) ≤ 5 := (cq_tl9 _ (by omega)).1
        refine cq_newSB F inJ4 (F.1.2.2.2.2 _ (List.mem_of_getElem? (l := wsX6_entry) (i := 4) (a := .classLink RX6 285 RJ4) (by decide +kernel))) (F.1.2.2.2.2 _ (List.mem_of_getElem? (l := wsX6_entry) (i := 5) (a := .instantiable RJ4 4) (by decide +kernel))) (F.1.2.2.2.2 _ (List.mem_of_getElem? (l := wsX6_entry) (i := 6) (a := .initialized RJ4) (by decide +kernel))) (cwI 0 F.1.2.2.2.2 gX6_entry_J4_init_da8c8 rfl rfl rfl (F.1.2.2.2.2 _ (List.mem_of_getElem? (l := wsX6_entry) (i := 6) (a := .initialized RJ4) (by decide +kernel))) (F.1.2.2.2.2 _ (List.mem_of_getElem? (l := wsX6_entry) (i := 7) (a := .methodLink RX6 287 yJ4_init_da8c8) (by decide +kernel))) (F.1.2.2.2.2 _ (List.mem_of_getElem? (l := wsX6_entry) (i := 8) (a := .instanceMethod yJ4_init_da8c8) (by decide +kernel))) rfl (by decide +kernel) ⟨Nat.le_of_ble_eq_true rfl, Nat.le_of_ble_eq_true rfl⟩) (Nat.le_of_ble_eq_true rfl) dX6_entry_35 dX6_entry_38 dX6_entry_39 ⟨Nat.le_of_ble_eq_true rfl, Nat.le_of_ble_eq_true rfl⟩ (fun q X1 M_35 hlt hsb hge hM hok => ?_)
        have hb1 := hb.ge1 hge
        have hq9 := hlt (b + 1 + 3 + 3) (by rw [hb.now.book.k3]; decide)
        refine cq_astore_n F (i := 3) dX6_entry_42 rfl (by decide) ?_
        refine cq_aload_n F (i := 0) dX6_entry_43 rfl rfl ?_
        refine cq_getT (t := (b + 1)) F (C := RX6) (T := TX6) (N := 9) (ci := 7) hb1.kind rfl ⟨⟨by decide, by decide⟩, rfl⟩ inX6 0 (by decide) rfl rfl hb1.t0 (F.1.2.2.2.2 _ (List.mem_of_getElem? (l := wsX6_entry) (i := 3) (a := .fieldLink RX6 10 "CordClock" "now" "LCordClock$State;") (by decide +kernel))) dX6_entry_44 ?_
        refine cq_getTN (t := ((b + 1) + 3)) F (C := RX5) (T := TX5) (N := 11) (ci := 6) hb1.now.kind rfl ⟨⟨by decide, by decide⟩, rfl⟩ inX5 4 (by decide) rfl rfl hb1.now.t4 (cq_nfw F.2.2.2.2 (List.mem_of_getElem? (l := cq_nf) (i := 22) rfl)) dX6_entry_47 ?_
        refine cq_iload_n F (i := 1) dX6_entry_50 rfl rfl ?_
        refine cq_aload_n F (i := 3) dX6_entry_51 rfl rfl ?_
        refine cq_callV F (C := RX0) (ci := 1) (kX0_tell l D cA X1 Bs (b + 1 + 3) a q (S_g S) M_35 hb1.now.book hsb (by omega) (h.1.2.2.2.1.ext (fun x k1 k2 => hM x (by omega)) (fun _ _ => rfl)) hk84 ha hz.1 (by omega) hz.2.2 hok) (cwV 2 F.1.2.2.2.2 gX6_entry_X0_tell rfl rfl rfl hdVX0_tell ⟨Nat.le_of_ble_eq_true rfl, Nat.le_of_ble_eq_true rfl⟩) hb1.now.book.kind ⟨by decide, by decide⟩ rfl rfl rfl (Nat.le_of_ble_eq_true rfl) dX6_entry_52 ⟨Nat.le_of_ble_eq_true rfl, Nat.le_of_ble_eq_true rfl⟩ (cq_kV fun M_52 h_52 => ?_)
        refine cq_iload_n F (i := 2) dX6_entry_55 rfl rfl ?_
        refine cq_aload_n F (i := 3) dX6_entry_56 rfl rfl ?_
        refine cq_callV F (C := RJ4) (ci := 9) (kJ4_length_8abf5 l D cA X1 Bs q (cq_tl (S_g S (85 + 3 * a)) + 3 + en_len (S_g S (86 + 3 * a))) (en_f (S_g S (85 + 3 * a)) (S_g S (87 + 3 * a)) (S_g S (86 + 3 * a))) M_52 hsb h_52.1) (cwV 0 F.1.2.2.2.2 gX6_entry_J4_length_8abf5 rfl rfl rfl hdVJ4_length_8abf5 ⟨Nat.le_of_ble_eq_true rfl, Nat.le_of_ble_eq_true rfl⟩) hsb.kind ⟨by decide, by decide⟩ rfl rfl rfl (Nat.le_of_ble_eq_true rfl) dX6_entry_57 ⟨Nat.le_of_ble_eq_true rfl, Nat.le_of_ble_eq_true rfl⟩ (cq_kIe ?_)
        refine cq_icmp_lt F (tgt := 65) dX6_entry_60 (by decide) (fun c_60 => ?_) (fun c_60 => ?_)
        · have c_60 : i < (cq_tl (S_g S (85 + 3 * a)) + 3 + en_len (S_g S (86 + 3 * a))) := (nI_b (a := i) (b := (cq_tl (S_g S (85 + 3 * a)) + 3 + en_len (S_g S (86 + 3 * a)))) (by omega) (by omega)).2.1.mp c_60
          refine cq_aload_n F (i := 3) dX6_entry_65 rfl rfl ?_
          refine cq_iload_n F (i := 2) dX6_entry_66 rfl rfl ?_
          refine cq_callV F (C := RJ4) (ci := 9) (kJ4_charAt_5068e l D cA X1 Bs q (cq_tl (S_g S (85 + 3 * a)) + 3 + en_len (S_g S (86 + 3 * a))) i (en_f (S_g S (85 + 3 * a)) (S_g S (87 + 3 * a)) (S_g S (86 + 3 * a))) M_52 hsb h_52.1 (by omega) (by omega) (fun j hj => (en_f_at hz.1 hz.2.2 hj).1)) (cwV 1 F.1.2.2.2.2 gX6_entry_J4_charAt_5068e rfl rfl rfl hdVJ4_charAt_5068e ⟨Nat.le_of_ble_eq_true rfl, Nat.le_of_ble_eq_true rfl⟩) hsb.kind ⟨by decide, by decide⟩ rfl rfl rfl (Nat.le_of_ble_eq_true rfl) dX6_entry_67 ⟨Nat.le_of_ble_eq_true rfl, Nat.le_of_ble_eq_true rfl⟩ (cq_kIe ?_)
          refine cq_shrink (X0 := X) (M0 := M) hge (fun x hx => (h_52.2 x (by have := hlt x hx; omega) (by have := hlt x hx; omega)).trans (hM x (hlt x hx))) ?_
          refine cq_ret9 ?_
          exact cq_iret F hr (by decide) (by decide) dX6_entry_70 ⟨_, rfl, ⟨(cw_q (by unfold op_entry; rw [if_pos ⟨Int32.not_lt.mp c_1, c_5⟩]) (by rw [if_pos c_30b, e9, e8]; exact (en_f_at hz.1 hz.2.2 (by omega)).2) h), rfl⟩⟩
        · have c_60 : ¬ i < (cq_tl (S_g S (85 + 3 * a)) + 3 + en_len (S_g S (86 + 3 * a))) := fun z => c_60 ((nI_b (a := i) (b := (cq_tl (S_g S (85 + 3 * a)) + 3 + en_len (S_g S (86 + 3 * a)))) (by omega) (by omega)).2.1.mpr z)
          refine cq_iconst F (v := (-1)) dX6_entry_63 rfl ?_
          refine cq_shrink (X0 := X) (M0 := M) hge (fun x hx => (h_52.2 x (by have := hlt x hx; omega) (by have := hlt x hx; omega)).trans (hM x (hlt x hx))) ?_
          refine cq_ret9 ?_
          exact cq_iret F hr (by decide) (by decide) dX6_entry_64 ⟨_, rfl, ⟨(cw_q (by unfold op_entry; rw [if_pos ⟨Int32.not_lt.mp c_1, c_5⟩]) (by rw [if_pos c_30b, e9, e8]; exact (en_at_end hz.1 (by omega)).symm) h), rfl⟩⟩
      · refine cq_iconst F (v := (-1)) dX6_entry_33 rfl ?_
        refine cq_ret9 ?_
        exact cq_iret F hr (by decide) (by decide) dX6_entry_34 ⟨_, rfl, ⟨(cw_q (by unfold op_entry; rw [if_pos ⟨Int32.not_lt.mp c_1, c_5⟩]) (by rw [if_neg c_30]) h), rfl⟩⟩
    · refine cq_throwW F hl hex (by decide +kernel) (F.1.2.2.2.2 _ (List.mem_of_getElem? (l := wsX6_entry) (i := 1) (a := .classLink RX6 48 "java/lang/IllegalArgumentException") (by decide +kernel))) (F.1.2.2.2.2 _ (List.mem_of_getElem? (l := wsX6_entry) (i := 2) (a := .initialized "java/lang/IllegalArgumentException") (by decide +kernel))) (List.mem_of_getElem? (l := cq_sr) (i := 13) rfl) (fun w h => F.1.2.2.2.2 w ((fun w h => List.mem_cons_of_mem _ (List.mem_append_right _ h)) w h)) xn_48_52 xg_48_52 dX6_entry_8 dX6_entry_11 dX6_entry_12 dX6_entry_15 dX6_entry_18 ⟨by decide, Nat.le_of_ble_eq_true rfl, by decide, by decide⟩ ⟨by decide, by decide⟩ ?_
      exact (cx_of (k := 0) (if_neg (fun z => by first | exact absurd c_1 (Int32.not_lt.mpr z.1) | exact c_5 z.2)) rfl rfl)
theorem hdVX6_entry : yX6_entry.cls = RX6 ∧ yX6_entry.cls ≠ "java/lang/invoke/MethodHandle" ∧ yX6_entry.cls ≠ "java/lang/invoke/VarHandle" ∧ (parseMethodDescriptor yX6_entry.desc).map (fun d => d.parameters.length) = some 2 := by decide +kernel
