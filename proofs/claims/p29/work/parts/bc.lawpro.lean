/-! the law's first rows: a clock, five rows of ints -/
section CNL
variable {p : Program} {l : Launch} {e : Env} {s : State} {m : MethodId} {args : Array Value} {below : List Frame} {meth : Method} {c : Code} {D : va_G} {cA : Nat → ClassId} {Bs cells slots : Nat} {Q : State → Prop} {pc : Nat} {L : List (Nat × Value)} {st : List Value} {K : cn_K} {sz : Nat}
theorem cn_astore_n (F : cq_F p s m args meth c D cA Bs 10 cL_law RL wsL_law) {k : Fin 4} {i : Nat} {x : Nat} (hdg : decode cL_law pc = .ok (.astore_n k, 1)) (hi : (k : Nat) = i) (hn : i < 10) (k : cn_V p l e room_1 s m args below meth c D Bs 10 cells slots Q (pc + 1) ((i, .ref x) :: L) st K sz) : cn_V p l e room_1 s m args below meth c D Bs 10 cells slots Q pc L (.ref x :: st) K sz := fun H locs ls hz hH hS hL => by
  obtain ⟨l9, h1, h2⟩ := hL
  exact lv_astore_n F.1.1 F.1.2.1 hdg hi h1 hn rfl (fun ls2 h3 => k H locs ls2 hz hH hS (cq_L.put h2 h3 rfl))
/-- the new objects are the shape's -/
theorem cn_to {X : cq_X} {M : cq_M} (hK : ∀ a, X.1 a ≠ 0 → w9_ok K cA X M a) (k : cq_V p l e room_1 s m args below meth c D cA X Bs 10 cells slots Q pc L st M) : cn_V p l e room_1 s m args below meth c D Bs 10 cells slots Q pc L st K sz := fun H locs ls _ hH hS hL => k H locs ls (w9_H hH hK) hS hL
theorem cp_clock.fr {K K1 : cn_K} {cA : Nat → ClassId} {a : Nat} (h : cp_clock K cA a) (hf : ∀ x, a ≤ x → x < a + 249 → K1 x = K x) : cp_clock K1 cA a := by
  obtain ⟨h1, h2, h3, h4, h5, h6, h7, h8, h9, h10⟩ := h
  exact ⟨by rw [hf _ (by omega) (by omega)]; exact h1, h2.fr (fun x k1 k2 => hf x (by omega) (by omega)), h3.fr (fun x k1 k2 => hf x (by omega) (by omega)), h4.fr (hf _ (by omega) (by omega)), h5.fr (hf _ (by omega) (by omega)), by rw [hf _ (by omega) (by omega)]; exact h6, h7.fr (fun x k1 k2 => hf x (by omega) (by omega)), h8.fr (fun x k1 k2 => hf x (by omega) (by omega)), fun j hj => (h9 j hj).fr (fun x k1 k2 => hf x (by omega) (by omega)), fun j hj => (h10 j hj).fr (fun x k1 k2 => hf x (by omega) (by omega))⟩
theorem w9_c1 : Cond.classLink RL 33 RX6 ∈ wsL_law ∧ Cond.instantiable RX6 9 ∈ wsL_law ∧ Cond.initialized RX6 ∈ wsL_law ∧ Cond.methodLink RL 123 yX6_init ∈ wsL_law ∧ Cond.instanceMethod yX6_init ∈ wsL_law := ⟨by decide +kernel, by decide +kernel, by decide +kernel, by decide +kernel, by decide +kernel⟩
theorem w9_c3 : Cond.arrayClass .int ∈ wsL_law := by decide +kernel
set_option maxRecDepth 100000 in
set_option maxHeartbeats 4000000 in
/-- the clock -/
theorem w9_pro {b0 : Nat} (F : cq_F p s m args meth c D cA s.heap.size 10 cL_law RL wsL_law) (O : cn_O s) (k : cq_V p l e room_1 s m args below meth c D cA (w9_X s.heap.size) s.heap.size 10 260 2700 Q 8 [(1, .ref s.heap.size), (0, .ref b0)] [] (w9_M (w9_X s.heap.size))) : cn_V p l e room_1 s m args below meth c D s.heap.size 10 0 0 Q 0 [(0, .ref b0)] [] (fun _ => none) s.heap.size := by
  obtain ⟨o, ho⟩ : ∃ o, o = s.heap.size := ⟨_, rfl⟩
  rw [← ho] at F k ⊢
  refine cn_new F (ci := 7) (C := RX6) (T := TX6) (N := 9) (fs := [.null, .null, .null, .int 0, .int 0, .null, .null, .null, .null]) rfl inlX6 tyX6 tyX6_ok (F.1.2.2.2.2 _ w9_c1.1) (F.1.2.2.2.2 _ w9_c1.2.1) (F.1.2.2.2.2 _ w9_c1.2.2.1) (fun j hj => by rcases (show j = 0 ∨ j = 1 ∨ j = 2 ∨ j = 3 ∨ j = 4 ∨ j = 5 ∨ j = 6 ∨ j = 7 ∨ j = 8 by omega) with rfl | rfl | rfl | rfl | rfl | rfl | rfl | rfl | rfl <;> rfl) ⟨Nat.le_of_ble_eq_true rfl, Nat.le_of_ble_eq_true rfl⟩ dL_law_0 ?_
  refine cn_up (fun K1 eK1 => ?_)
  refine cn_dup F dL_law_3 rfl ?_
  refine cn_callI F O (As := []) (kX6_init l D cA o o K1 (by rw [eK1]; exact cn_u_s _ _ _)) (cwI 0 F.1.2.2.2.2 gL_law_X6_init rfl rfl rfl (F.1.2.2.2.2 _ w9_c1.2.2.1) (F.1.2.2.2.2 _ w9_c1.2.2.2.1) (F.1.2.2.2.2 _ w9_c1.2.2.2.2) rfl (by decide +kernel) ⟨Nat.le_of_ble_eq_true rfl, Nat.le_of_ble_eq_true rfl⟩) rfl (Nat.le_of_ble_eq_true rfl) dL_law_4 ⟨Nat.le_of_ble_eq_true rfl, Nat.le_of_ble_eq_true rfl⟩ (fun K2 h2 => ?_)
  refine cn_astore_n F dL_law_7 rfl (by decide) ?_
  refine cn_widen (k := 260) (n := 2700) (Nat.le_of_ble_eq_true rfl) (Nat.le_of_ble_eq_true rfl) ?_
  exact cn_to (X := w9_X o) (M := w9_M (w9_X o)) (w9_all (b := o) h2.1) k
end CNL
section CQL
variable {p : Program} {l : Launch} {e : Env} {s : State} {m : MethodId} {args : Array Value} {below : List Frame} {meth : Method} {c : Code} {D : va_G} {cA : Nat → ClassId} {Q : State → Prop}
theorem w9_lr0 : lr (fun _ => 0) (fun _ => 0) (fun _ => 0) (fun _ => 0) (fun _ => 0) (S_g w9_S 1) (S_g w9_S) := ⟨⟨rfl, rfl, rfl, rfl, rfl, rfl, rfl, rfl, rfl⟩, fun i hi => absurd hi (Nat.not_lt_zero _), fun i hi => absurd hi (Nat.not_lt_zero _), fun i hi => absurd hi (Nat.not_lt_zero _), fun i hi => absurd hi (Nat.not_lt_zero _)⟩
set_option maxRecDepth 100000 in
set_option maxHeartbeats 4000000 in
/-- the five rows -/
theorem w9_rows {b0 Bs o : Nat} {X : cq_X} {M : cq_M} (F : cq_F p s m args meth c D cA Bs 10 cL_law RL wsL_law) (hb : cq_isClock X o) (h : ck M o w9_S)
    (k : ∀ (X1 : cq_X) (M1 : cq_M) (ta ca ra na ba : Nat), cq_isClock X1 o → la X1 ta ca ra na ba → o + 249 ≤ ta → ck M1 o w9_S → lm M1 ta ca ra na ba (fun _ => 0) (fun _ => 0) (fun _ => 0) (fun _ => 0) (fun _ => 0) → cq_V p l e room_1 s m args below meth c D cA X1 Bs 10 300 2800 Q 36 [(0, .ref b0), (1, .ref o), (2, .ref ta), (3, .ref ca), (4, .ref ra), (5, .ref na), (6, .ref ba)] [] M1) : cq_V p l e room_1 s m args below meth c D cA X Bs 10 260 2700 Q 8 [(1, .ref o), (0, .ref b0)] [] M := by
  have hf : X.1 (o + 248) ≠ 0 := by
    have z : X.1 (o + 203 + 23 * 1 + 15 + 7) = 5 := ((hb.sn 1 (by decide)).rule 7 (by decide)).kind
    rw [show o + 248 = o + 203 + 23 * 1 + 15 + 7 by omega, z]
    decide
  refine cq_bipush F (v := 24) dL_law_8 (by decide) ?_
  refine cq_newI F (N := 24) (F.1.2.2.2.2 _ w9_c3) rfl (by decide) ⟨Nat.le_of_ble_eq_true rfl, Nat.le_of_ble_eq_true rfl⟩ dL_law_10 (fun ta X1 M1 lt1 ge1 rw1 hM1 hz1 lu1 => ?_)
  refine cq_astore_n F dL_law_12 rfl (by decide) ?_
  refine cq_bipush F (v := 20) dL_law_13 (by decide) ?_
  refine cq_newI F (N := 20) (F.1.2.2.2.2 _ w9_c3) rfl (by decide) ⟨Nat.le_of_ble_eq_true rfl, Nat.le_of_ble_eq_true rfl⟩ dL_law_15 (fun ca X2 M2 lt2 ge2 rw2 hM2 hz2 lu2 => ?_)
  refine cq_astore_n F dL_law_17 rfl (by decide) ?_
  refine cq_bipush F (v := 32) dL_law_18 (by decide) ?_
  refine cq_newI F (N := 32) (F.1.2.2.2.2 _ w9_c3) rfl (by decide) ⟨Nat.le_of_ble_eq_true rfl, Nat.le_of_ble_eq_true rfl⟩ dL_law_20 (fun ra X3 M3 lt3 ge3 rw3 hM3 hz3 lu3 => ?_)
  refine cq_astore F dL_law_22 (by decide) ?_
  refine cq_bipush F (v := 9) dL_law_24 (by decide) ?_
  refine cq_newI F (N := 9) (F.1.2.2.2.2 _ w9_c3) rfl (by decide) ⟨Nat.le_of_ble_eq_true rfl, Nat.le_of_ble_eq_true rfl⟩ dL_law_26 (fun na X4 M4 lt4 ge4 rw4 hM4 hz4 lu4 => ?_)
  refine cq_astore F dL_law_28 (by decide) ?_
  refine cq_bipush F (v := 8) dL_law_30 (by decide) ?_
  refine cq_newI F (N := 8) (F.1.2.2.2.2 _ w9_c3) rfl (by decide) ⟨Nat.le_of_ble_eq_true rfl, Nat.le_of_ble_eq_true rfl⟩ dL_law_32 (fun ba X5 M5 lt5 ge5 rw5 hM5 hz5 lu5 => ?_)
  refine cq_astore F dL_law_34 (by decide) ?_
  have q1 : o + 249 ≤ ta := by have := lt1 _ hf; omega
  have q2 : ta < ca := lt2 _ (by rw [rw1.1]; decide)
  have q3 : ca < ra := lt3 _ (by rw [rw2.1]; decide)
  have q4 : ra < na := lt4 _ (by rw [rw3.1]; decide)
  have q5 : na < ba := lt5 _ (by rw [rw4.1]; decide)
  have g2 := ge1.trans ge2
  have g3 := g2.trans ge3
  have g4 := g3.trans ge4
  have g5 := g4.trans ge5
  have e1 : ∀ x, x < ta → M5 x = M x := fun x hx => by rw [hM5 x (by omega), hM4 x (by omega), hM3 x (by omega), hM2 x (by omega), hM1 x hx]
  refine cq_loc (L2 := [(0, .ref b0), (1, .ref o), (2, .ref ta), (3, .ref ca), (4, .ref ra), (5, .ref na), (6, .ref ba)]) rfl ?_
  refine cq_widen (k := 300) (n := 2800) (Nat.le_of_ble_eq_true rfl) (Nat.le_of_ble_eq_true rfl) ?_
  have r1 : lq_row X1 ta 24 := rw1
  have r2 : lq_row X2 ca 20 := rw2
  have r3 : lq_row X3 ra 32 := rw3
  have r4 : lq_row X4 na 9 := rw4
  have r5 : lq_row X5 ba 8 := rw5
  have ha : la X5 ta ca ra na ba := ⟨(((r1.ge ge2).ge ge3).ge ge4).ge ge5, ((r2.ge ge3).ge ge4).ge ge5, (r3.ge ge4).ge ge5, r4.ge ge5, r5, q2, q3, q4, q5⟩
  refine k X5 M5 ta ca ra na ba (hb.ge g5) ha q1 (h.far w9_as (fun x h1 h2 => e1 x (by omega))) ⟨hz1.same (fun j => ?_), hz2.same (fun j => ?_), hz3.same (fun j => ?_), hz4.same (fun j => ?_), hz5⟩
  · rw [hM5 ta (by omega), hM4 ta (by omega), hM3 ta (by omega), hM2 ta (by omega)]
  · rw [hM5 ca (by omega), hM4 ca (by omega), hM3 ca (by omega)]
  · rw [hM5 ra (by omega), hM4 ra (by omega)]
  · rw [hM5 na (by omega)]
end CQL
