/-! the constructors of the clock and of the reference -/
def cp_clock (K : cn_K) (cA : Nat → ClassId) (b : Nat) : Prop := K b = some (.inr (7, [.ref (b + 1), .ref (b + 24), .ref (b + 47), .int 0, .int 0, .ref (b + 48), .ref (b + 49), .ref (b + 50), .ref (b + 53)])) ∧ cp_state K cA (b + 1) ∧ cp_state K cA (b + 24) ∧ cp_q K (b + 47) (cA 5) 6 (fun j => b + 65 + 23 * j) ∧ cp_q K (b + 48) (cA 5) 2 (fun j => b + 203 + 23 * j) ∧ K (b + 49) = some (.inl (cA 2, 2, .inl (fun _ => 0))) ∧ cp_text K cA (b + 50) ∧ cp_plans K cA (b + 53) ∧ (∀ j, j < 6 → cp_state K cA (b + 65 + 23 * j)) ∧ ∀ j, j < 2 → cp_state K cA (b + 203 + 23 * j)
def cp_model (K : cn_K) (cA : Nat → ClassId) (o : Nat) : Prop := K o = some (.inr (8, [.ref (o + 1), .ref (o + 2), .int 0, .ref (o + 3), .ref (o + 4), .ref (o + 5), .int 0, .ref (o + 6), .int 0, .int 0, .int 0, .int 0, .ref (o + 7), .ref (o + 8), .ref (o + 9), .ref (o + 10), .ref (o + 11), .ref (o + 12), .ref (o + 13), .int 0, .ref (o + 14), .int 0])) ∧ K (o + 1) = some (.inl (cA 0, 109, .inl (fun _ => 0))) ∧ K (o + 2) = some (.inl (cA 0, 654, .inl (fun _ => 0))) ∧ K (o + 3) = some (.inl (cA 0, 218, .inl (fun _ => 0))) ∧ K (o + 4) = some (.inl (cA 2, 2, .inl (fun _ => 0))) ∧ K (o + 5) = some (.inl (cA 0, 109, .inl (fun _ => 0))) ∧ K (o + 6) = some (.inl (cA 0, 60, .inl (fun _ => 0))) ∧ K (o + 7) = some (.inl (cA 0, 16, .inl (fun _ => 0))) ∧ K (o + 8) = some (.inl (cA 0, 16, .inl (fun _ => 0))) ∧ K (o + 9) = some (.inl (cA 0, 16, .inl (fun _ => 0))) ∧ K (o + 10) = some (.inl (cA 0, 16, .inl (fun _ => 0))) ∧ K (o + 11) = some (.inl (cA 0, 96, .inl (fun _ => 0))) ∧ K (o + 12) = some (.inl (cA 0, 1081, .inl (fun _ => 0))) ∧ K (o + 13) = some (.inl (cA 0, 5760, .inl (fun _ => 0))) ∧ K (o + 14) = some (.inl (cA 0, 5760, .inl (fun _ => 0)))
abbrev rmX6_init : Room := ({ frames := 3, cells := 248, slots := 2603, locals := 53 })
set_option maxHeartbeats 4000000 in
set_option maxRecDepth 100000 in
theorem kX6_init (l : Launch) (D : va_G) (cA : Nat → ClassId) (Bs a : Nat) (K : cn_K) (h0 : K a = some (.inr (7, [.null, .null, .null, .int 0, .int 0, .null, .null, .null, .null]))) : cn_C l yX6_init wsX6_init rmX6_init D cA Bs [.ref a] K (a + 1) (fun K1 => cp_clock K1 cA a ∧ ∀ x, x < a → K1 x = K x) (a + 249) 248 2603 := by
  refine cn_met (cc := cX6_init) (maxL := 2) (ret := none) (by decide) rfl (Nat.le_of_ble_eq_true rfl) [(0, .ref a)] rfl rfl ?_
  intro p9 e9 s9 m9 b9 t9 c9 F hr hnm O
  have inX2 : ∀ w ∈ wsX20, w ∈ wsX6_init := (fun w h => List.mem_cons_of_mem _ (List.mem_append_left _ (List.mem_append_left _ (List.mem_append_left _ (List.mem_append_left _ (List.mem_append_right _ h))))))
  have inX3 : ∀ w ∈ wsX30, w ∈ wsX6_init := (fun w h => List.mem_cons_of_mem _ (List.mem_append_left _ (List.mem_append_left _ (List.mem_append_left _ (List.mem_append_right _ h)))))
  have inX5 : ∀ w ∈ wsX50, w ∈ wsX6_init := (fun w h => List.mem_cons_of_mem _ (List.mem_append_left _ (List.mem_append_left _ (List.mem_append_left _ (List.mem_append_left _ (List.mem_append_left _ (List.mem_append_left _ (List.mem_append_right _ h))))))))
  have inX6 : ∀ w ∈ wsX60, w ∈ wsX6_init := (fun w h => List.mem_cons_of_mem _ (List.mem_append_left _ (List.mem_append_left _ (List.mem_append_left _ (List.mem_append_left _ (List.mem_append_left _ (List.mem_append_right _ h)))))))
  have loop_101 : ∀ (n_101 : Nat) (i : Nat) (K2 : cn_K) (f f2 : Nat → Option Nat), i ≤ 2 → K2 a = some (.inr (7, [.ref (a + 1), .ref (a + 24), .ref (a + 47), .int 0, .int 0, .ref (a + 48), .ref (a + 49), .ref (a + 50), .ref (a + 53)])) → cp_state K2 cA (a + 1) → cp_state K2 cA (a + 24) → K2 (a + 47) = some (.inl (cA 5, 6, .inr (.inr (.inr (.inr f))))) → K2 (a + 48) = some (.inl (cA 5, 2, .inr (.inr (.inr (.inr f2))))) → K2 (a + 49) = some (.inl (cA 2, 2, .inl (fun _ => 0))) → cp_text K2 cA (a + 50) → cp_plans K2 cA (a + 53) → (∀ j, j < 6 → f j = some (a + 65 + 23 * j)) → (∀ j, j < i → f2 j = some (a + 203 + 23 * j)) → (∀ j, j < 6 → cp_state K2 cA (a + 65 + 23 * j)) → (∀ j, j < i → cp_state K2 cA (a + 203 + 23 * j)) → (∀ x, x < a → K2 x = K x) → 3 - i < n_101 → cn_V p9 l e9 rmX6_init s9 m9 ([.ref a] : List Value).toArray b9 t9 c9 D Bs 2 (202 + 23 * i) (2323 + 140 * i) (MQ b9 (cn_Q D Bs (fun K1 => cp_clock K1 cA a ∧ ∀ x, x < a → K1 x = K x) (a + 249)) ([.ref a] : List Value).toArray s9 248 2603 (cq_A Bs)) 101 [(0, .ref a), (1, .int (nI i))] [] K2 (a + 203 + 23 * i) := by
    intro n_101
    induction n_101 with
    | zero =>
      intros
      omega
    | succ n_101 ih_101 =>
      intro i K2 f f2 hi po p1 p24 pf pf2 p49 p50 p53 hf hf2 psv psn ff hn
      refine cn_iload_n F (i := 1) dX6_init_101 rfl rfl ?_
      refine cn_iconst F (v := 2) dX6_init_102 rfl ?_
      refine cn_icmp_ge F (tgt := 125) dX6_init_103 (by decide) (fun c_9 => ?_) (fun c_9 => ?_)
      · have c_9 : 2 ≤ i := (nI_b (a := 2) (b := i) (by omega) (by omega)).1.mp c_9
        obtain rfl : i = 2 := by omega
        exact cn_vret F hr (by omega) (by omega) dX6_init_125 ⟨⟨po, p1, p24, ⟨f, pf, hf⟩, ⟨f2, pf2, hf2⟩, p49, p50, p53, psv, psn⟩, ff⟩ (by omega)
      · have c_9 : ¬ 2 ≤ i := fun z => c_9 ((nI_b (a := 2) (b := i) (by omega) (by omega)).1.mpr z)
        refine cn_aload_n F (i := 0) dX6_init_106 rfl rfl ?_
        refine cn_get F (C := RX6) (T := TX6) (N := 9) (ci := 7) po rfl inX6 5 (by decide) (F.1.2.2.2.2 _ (List.mem_of_getElem? (l := wsX6_init) (i := 10) (a := .fieldLink RX6 23 "CordClock" "snapshots" "[LCordClock$State;") (by decide +kernel))) rfl dX6_init_107 ?_
        refine cn_iload_n F (i := 1) dX6_init_110 rfl rfl ?_
        refine cn_new F (C := RX5) (T := TX5) (N := 11) (ci := 6) (fs := [.null, .int 0, .null, .int 0, .null, .int 0, .int 0, .int 0, .int 0, .int 0, .int 0]) rfl inX5 tyX5 tyX5_ok (F.1.2.2.2.2 _ (List.mem_of_getElem? (l := wsX6_init) (i := 4) (a := .classLink RX6 7 RX5) (by decide +kernel))) (F.1.2.2.2.2 _ (List.mem_of_getElem? (l := wsX6_init) (i := 5) (a := .instantiable RX5 11) (by decide +kernel))) (F.1.2.2.2.2 _ (List.mem_of_getElem? (l := wsX6_init) (i := 6) (a := .initialized RX5) (by decide +kernel))) (fun j hj => by rcases (show j = 0 ∨ j = 1 ∨ j = 2 ∨ j = 3 ∨ j = 4 ∨ j = 5 ∨ j = 6 ∨ j = 7 ∨ j = 8 ∨ j = 9 ∨ j = 10 by omega) with rfl | rfl | rfl | rfl | rfl | rfl | rfl | rfl | rfl | rfl | rfl <;> rfl) ⟨by show _ ≤ 248; omega, by show _ ≤ 2603; omega⟩ dX6_init_111 ?_
        refine cn_up (fun K_111 e_111 => ?_)
        have p_111_0 : K_111 a = some (.inr (7, [.ref (a + 1), .ref (a + 24), .ref (a + 47), .int 0, .int 0, .ref (a + 48), .ref (a + 49), .ref (a + 50), .ref (a + 53)])) := by rw [e_111, cn_u_n (by omega)]; exact po
        have p_111_1 : cp_state K_111 cA (a + 1) := (p1).fr (fun x h1 h2 => by rw [e_111, cn_u_n (by omega)])
        have p_111_2 : cp_state K_111 cA (a + 24) := (p24).fr (fun x h1 h2 => by rw [e_111, cn_u_n (by omega)])
        have p_111_3 : K_111 (a + 47) = some (.inl (cA 5, 6, .inr (.inr (.inr (.inr f))))) := by rw [e_111, cn_u_n (by omega)]; exact pf
        have p_111_4 : K_111 (a + 48) = some (.inl (cA 5, 2, .inr (.inr (.inr (.inr f2))))) := by rw [e_111, cn_u_n (by omega)]; exact pf2
        have p_111_5 : K_111 (a + 49) = some (.inl (cA 2, 2, .inl (fun _ => 0))) := by rw [e_111, cn_u_n (by omega)]; exact p49
        have p_111_6 : cp_text K_111 cA (a + 50) := (p50).fr (fun x h1 h2 => by rw [e_111, cn_u_n (by omega)])
        have p_111_7 : cp_plans K_111 cA (a + 53) := (p53).fr (fun x h1 h2 => by rw [e_111, cn_u_n (by omega)])
        have p_111_8 : ∀ j, j < 6 → cp_state K_111 cA (a + 65 + 23 * j) := fun j hj => (psv j hj).fr (fun x h1 h2 => by rw [e_111, cn_u_n (by omega)])
        have p_111_9 : ∀ j, j < i → cp_state K_111 cA (a + 203 + 23 * j) := fun j hj => (psn j hj).fr (fun x h1 h2 => by rw [e_111, cn_u_n (by omega)])
        have p_111_n : K_111 (a + 203 + 23 * i) = some (.inr (6, [.null, .int 0, .null, .int 0, .null, .int 0, .int 0, .int 0, .int 0, .int 0, .int 0])) := by rw [e_111]; exact cn_u_s _ _ _
        have f_111 : ∀ x, x < a → K_111 x = K x := fun x hx => (show K_111 x = K2 x by rw [e_111, cn_u_n (by omega)]).trans (ff x hx)
        refine cn_dup F dX6_init_114 rfl ?_
        refine cn_callI F O (kX5_init l D cA Bs (a + 203 + 23 * i) K_111 p_111_n) (cwI 0 F.1.2.2.2.2 gX6_init_X5_init rfl rfl rfl (F.1.2.2.2.2 _ (List.mem_of_getElem? (l := wsX6_init) (i := 6) (a := .initialized RX5) (by decide +kernel))) (F.1.2.2.2.2 _ (List.mem_of_getElem? (l := wsX6_init) (i := 21) (a := .methodLink RX6 9 yX5_init) (by decide +kernel))) (F.1.2.2.2.2 _ (List.mem_of_getElem? (l := wsX6_init) (i := 22) (a := .instanceMethod yX5_init) (by decide +kernel))) rfl (by decide +kernel) ⟨Nat.le_of_ble_eq_true rfl, Nat.le_of_ble_eq_true rfl⟩) rfl (Nat.le_of_ble_eq_true rfl) dX6_init_115 ⟨by show _ ≤ 248; omega, by show _ ≤ 2603; omega⟩ (fun K_115 h_115 => ?_)
        have p_115_0 : K_115 a = some (.inr (7, [.ref (a + 1), .ref (a + 24), .ref (a + 47), .int 0, .int 0, .ref (a + 48), .ref (a + 49), .ref (a + 50), .ref (a + 53)])) := by rw [h_115.2 _ (by omega)]; exact p_111_0
        have p_115_1 : cp_state K_115 cA (a + 1) := (p_111_1).fr (fun x h1 h2 => by rw [h_115.2 _ (by omega)])
        have p_115_2 : cp_state K_115 cA (a + 24) := (p_111_2).fr (fun x h1 h2 => by rw [h_115.2 _ (by omega)])
        have p_115_3 : K_115 (a + 47) = some (.inl (cA 5, 6, .inr (.inr (.inr (.inr f))))) := by rw [h_115.2 _ (by omega)]; exact p_111_3
        have p_115_4 : K_115 (a + 48) = some (.inl (cA 5, 2, .inr (.inr (.inr (.inr f2))))) := by rw [h_115.2 _ (by omega)]; exact p_111_4
        have p_115_5 : K_115 (a + 49) = some (.inl (cA 2, 2, .inl (fun _ => 0))) := by rw [h_115.2 _ (by omega)]; exact p_111_5
        have p_115_6 : cp_text K_115 cA (a + 50) := (p_111_6).fr (fun x h1 h2 => by rw [h_115.2 _ (by omega)])
        have p_115_7 : cp_plans K_115 cA (a + 53) := (p_111_7).fr (fun x h1 h2 => by rw [h_115.2 _ (by omega)])
        have p_115_8 : ∀ j, j < 6 → cp_state K_115 cA (a + 65 + 23 * j) := fun j hj => (p_111_8 j hj).fr (fun x h1 h2 => by rw [h_115.2 _ (by omega)])
        have p_115_9 : ∀ j, j < i → cp_state K_115 cA (a + 203 + 23 * j) := fun j hj => (p_111_9 j hj).fr (fun x h1 h2 => by rw [h_115.2 _ (by omega)])
        have f_115 : ∀ x, x < a → K_115 x = K x := fun x hx => (show K_115 x = K_111 x by rw [h_115.2 _ (by omega)]).trans (f_111 x hx)
        refine cn_aast F (t := 5) (ci := 6) (j := i) p_115_4 h_115.1.1 rfl (F.2.1.2 5 _ rfl).2 rfl ⟨by omega, by decide⟩ dX6_init_118 ?_
        refine cn_up (fun K_118 e_118 => ?_)
        have p_118_0 : K_118 a = some (.inr (7, [.ref (a + 1), .ref (a + 24), .ref (a + 47), .int 0, .int 0, .ref (a + 48), .ref (a + 49), .ref (a + 50), .ref (a + 53)])) := by rw [e_118, cn_u_n (by omega)]; exact p_115_0
        have p_118_1 : cp_state K_118 cA (a + 1) := (p_115_1).fr (fun x h1 h2 => by rw [e_118, cn_u_n (by omega)])
        have p_118_2 : cp_state K_118 cA (a + 24) := (p_115_2).fr (fun x h1 h2 => by rw [e_118, cn_u_n (by omega)])
        have p_118_3 : K_118 (a + 47) = some (.inl (cA 5, 6, .inr (.inr (.inr (.inr f))))) := by rw [e_118, cn_u_n (by omega)]; exact p_115_3
        have p_118_5 : K_118 (a + 49) = some (.inl (cA 2, 2, .inl (fun _ => 0))) := by rw [e_118, cn_u_n (by omega)]; exact p_115_5
        have p_118_6 : cp_text K_118 cA (a + 50) := (p_115_6).fr (fun x h1 h2 => by rw [e_118, cn_u_n (by omega)])
        have p_118_7 : cp_plans K_118 cA (a + 53) := (p_115_7).fr (fun x h1 h2 => by rw [e_118, cn_u_n (by omega)])
        have p_118_8 : ∀ j, j < 6 → cp_state K_118 cA (a + 65 + 23 * j) := fun j hj => (p_115_8 j hj).fr (fun x h1 h2 => by rw [e_118, cn_u_n (by omega)])
        have p_118_9 : ∀ j, j < i → cp_state K_118 cA (a + 203 + 23 * j) := fun j hj => (p_115_9 j hj).fr (fun x h1 h2 => by rw [e_118, cn_u_n (by omega)])
        have p_118_10 : K_118 (a + 203 + 23 * i) = some (.inr (6, [.ref (a + 203 + 23 * i + 1), .int 0, .ref (a + 203 + 23 * i + 2), .int 0, .ref (a + 203 + 23 * i + 3), .int 0, .int 0, .int 0, .int 0, .int 0, .int 0])) := by rw [e_118, cn_u_n (by omega)]; exact h_115.1.1
        have p_118_11 : cp_state K_118 cA (a + 203 + 23 * i) := (h_115.1).fr (fun x h1 h2 => by rw [e_118, cn_u_n (by omega)])
        have p_118_n : K_118 (a + 48) = some (.inl (cA 5, 2, .inr (.inr (.inr (.inr (va_up f2 i (some (a + 203 + 23 * i)))))))) := by rw [e_118]; exact cn_u_s _ _ _
        have f_118 : ∀ x, x < a → K_118 x = K x := fun x hx => (show K_118 x = K_115 x by rw [e_118, cn_u_n (by omega)]).trans (f_115 x hx)
        refine cn_iinc F dX6_init_119 rfl (by decide) (fun x_119 e9_119 => ?_)
        obtain rfl : x_119 = nI (i + 1) := by rw [e9_119]; exact nI_1 _
        refine cn_goto F (tgt := 101) dX6_init_122 (by decide) ?_
        refine cn_sz (sz1 := a + 203 + 23 * (i + 1)) (by omega) ?_
        refine cn_widen (k := 202 + 23 * (i + 1)) (n := 2323 + 140 * (i + 1)) (by omega) (by omega) ?_
        refine cn_loc (L2 := [(0, .ref a), (1, .int (nI (i + 1)))]) rfl ?_
        exact ih_101 (i + 1) K_118 f _ (by omega) p_118_0 p_118_1 p_118_2 p_118_3 p_118_n p_118_5 p_118_6 p_118_7 hf (fun j hj => by
            unfold va_up
            by_cases e : j = i
            · rw [if_pos e, e]
            · rw [if_neg e]; exact hf2 j (by omega)) p_118_8 (fun j hj => by
            by_cases e : j = i
            · rw [e]; exact p_118_11
            · exact p_118_9 j (by omega)) f_118 (by omega)
  have loop_74 : ∀ (n_74 : Nat) (i : Nat) (K2 : cn_K) (f f2 : Nat → Option Nat), i ≤ 6 → K2 a = some (.inr (7, [.ref (a + 1), .ref (a + 24), .ref (a + 47), .int 0, .int 0, .ref (a + 48), .ref (a + 49), .ref (a + 50), .ref (a + 53)])) → cp_state K2 cA (a + 1) → cp_state K2 cA (a + 24) → K2 (a + 47) = some (.inl (cA 5, 6, .inr (.inr (.inr (.inr f))))) → K2 (a + 48) = some (.inl (cA 5, 2, .inr (.inr (.inr (.inr f2))))) → K2 (a + 49) = some (.inl (cA 2, 2, .inl (fun _ => 0))) → cp_text K2 cA (a + 50) → cp_plans K2 cA (a + 53) → (∀ j, j < i → f j = some (a + 65 + 23 * j)) → (∀ j, j < i → cp_state K2 cA (a + 65 + 23 * j)) → (∀ x, x < a → K2 x = K x) → 7 - i < n_74 → cn_V p9 l e9 rmX6_init s9 m9 ([.ref a] : List Value).toArray b9 t9 c9 D Bs 2 (64 + 23 * i) (1483 + 140 * i) (MQ b9 (cn_Q D Bs (fun K1 => cp_clock K1 cA a ∧ ∀ x, x < a → K1 x = K x) (a + 249)) ([.ref a] : List Value).toArray s9 248 2603 (cq_A Bs)) 74 [(0, .ref a), (1, .int (nI i))] [] K2 (a + 65 + 23 * i) := by
    intro n_74
    induction n_74 with
    | zero =>
      intros
      omega
    | succ n_74 ih_74 =>
      intro i K2 f f2 hi po p1 p24 pf pf2 p49 p50 p53 hf psv ff hn
      refine cn_iload_n F (i := 1) dX6_init_74 rfl rfl ?_
      refine cn_bipush F (v := 6) dX6_init_75 (by decide) ?_
      refine cn_icmp_ge F (tgt := 99) dX6_init_77 (by decide) (fun c_9 => ?_) (fun c_9 => ?_)
      · have c_9 : 6 ≤ i := (nI_b (a := 6) (b := i) (by omega) (by omega)).1.mp c_9
        obtain rfl : i = 6 := by omega
        refine cn_iconst F (v := 0) dX6_init_99 rfl ?_
        refine cn_istore_n F (i := 1) dX6_init_100 rfl (by decide) ?_
        refine cn_sz (sz1 := a + 203 + 23 * 0) (by omega) ?_
        refine cn_widen (k := 202 + 23 * 0) (n := 2323 + 140 * 0) (by omega) (by omega) ?_
        refine cn_loc (L2 := [(0, .ref a), (1, .int (nI 0))]) rfl ?_
        exact loop_101 4 0 K2 f f2 (by omega) po p1 p24 pf pf2 p49 p50 p53 hf (fun j hj => absurd hj (by omega)) psv (fun j hj => absurd hj (by omega)) ff (by omega)
      · have c_9 : ¬ 6 ≤ i := fun z => c_9 ((nI_b (a := 6) (b := i) (by omega) (by omega)).1.mpr z)
        refine cn_aload_n F (i := 0) dX6_init_80 rfl rfl ?_
        refine cn_get F (C := RX6) (T := TX6) (N := 9) (ci := 7) po rfl inX6 2 (by decide) (F.1.2.2.2.2 _ (List.mem_of_getElem? (l := wsX6_init) (i := 9) (a := .fieldLink RX6 19 "CordClock" "saved" "[LCordClock$State;") (by decide +kernel))) rfl dX6_init_81 ?_
        refine cn_iload_n F (i := 1) dX6_init_84 rfl rfl ?_
        refine cn_new F (C := RX5) (T := TX5) (N := 11) (ci := 6) (fs := [.null, .int 0, .null, .int 0, .null, .int 0, .int 0, .int 0, .int 0, .int 0, .int 0]) rfl inX5 tyX5 tyX5_ok (F.1.2.2.2.2 _ (List.mem_of_getElem? (l := wsX6_init) (i := 4) (a := .classLink RX6 7 RX5) (by decide +kernel))) (F.1.2.2.2.2 _ (List.mem_of_getElem? (l := wsX6_init) (i := 5) (a := .instantiable RX5 11) (by decide +kernel))) (F.1.2.2.2.2 _ (List.mem_of_getElem? (l := wsX6_init) (i := 6) (a := .initialized RX5) (by decide +kernel))) (fun j hj => by rcases (show j = 0 ∨ j = 1 ∨ j = 2 ∨ j = 3 ∨ j = 4 ∨ j = 5 ∨ j = 6 ∨ j = 7 ∨ j = 8 ∨ j = 9 ∨ j = 10 by omega) with rfl | rfl | rfl | rfl | rfl | rfl | rfl | rfl | rfl | rfl | rfl <;> rfl) ⟨by show _ ≤ 248; omega, by show _ ≤ 2603; omega⟩ dX6_init_85 ?_
        refine cn_up (fun K_85 e_85 => ?_)
        have p_85_0 : K_85 a = some (.inr (7, [.ref (a + 1), .ref (a + 24), .ref (a + 47), .int 0, .int 0, .ref (a + 48), .ref (a + 49), .ref (a + 50), .ref (a + 53)])) := by rw [e_85, cn_u_n (by omega)]; exact po
        have p_85_1 : cp_state K_85 cA (a + 1) := (p1).fr (fun x h1 h2 => by rw [e_85, cn_u_n (by omega)])
        have p_85_2 : cp_state K_85 cA (a + 24) := (p24).fr (fun x h1 h2 => by rw [e_85, cn_u_n (by omega)])
        have p_85_3 : K_85 (a + 47) = some (.inl (cA 5, 6, .inr (.inr (.inr (.inr f))))) := by rw [e_85, cn_u_n (by omega)]; exact pf
        have p_85_4 : K_85 (a + 48) = some (.inl (cA 5, 2, .inr (.inr (.inr (.inr f2))))) := by rw [e_85, cn_u_n (by omega)]; exact pf2
        have p_85_5 : K_85 (a + 49) = some (.inl (cA 2, 2, .inl (fun _ => 0))) := by rw [e_85, cn_u_n (by omega)]; exact p49
        have p_85_6 : cp_text K_85 cA (a + 50) := (p50).fr (fun x h1 h2 => by rw [e_85, cn_u_n (by omega)])
        have p_85_7 : cp_plans K_85 cA (a + 53) := (p53).fr (fun x h1 h2 => by rw [e_85, cn_u_n (by omega)])
        have p_85_8 : ∀ j, j < i → cp_state K_85 cA (a + 65 + 23 * j) := fun j hj => (psv j hj).fr (fun x h1 h2 => by rw [e_85, cn_u_n (by omega)])
        have p_85_n : K_85 (a + 65 + 23 * i) = some (.inr (6, [.null, .int 0, .null, .int 0, .null, .int 0, .int 0, .int 0, .int 0, .int 0, .int 0])) := by rw [e_85]; exact cn_u_s _ _ _
        have f_85 : ∀ x, x < a → K_85 x = K x := fun x hx => (show K_85 x = K2 x by rw [e_85, cn_u_n (by omega)]).trans (ff x hx)
        refine cn_dup F dX6_init_88 rfl ?_
        refine cn_callI F O (kX5_init l D cA Bs (a + 65 + 23 * i) K_85 p_85_n) (cwI 0 F.1.2.2.2.2 gX6_init_X5_init rfl rfl rfl (F.1.2.2.2.2 _ (List.mem_of_getElem? (l := wsX6_init) (i := 6) (a := .initialized RX5) (by decide +kernel))) (F.1.2.2.2.2 _ (List.mem_of_getElem? (l := wsX6_init) (i := 21) (a := .methodLink RX6 9 yX5_init) (by decide +kernel))) (F.1.2.2.2.2 _ (List.mem_of_getElem? (l := wsX6_init) (i := 22) (a := .instanceMethod yX5_init) (by decide +kernel))) rfl (by decide +kernel) ⟨Nat.le_of_ble_eq_true rfl, Nat.le_of_ble_eq_true rfl⟩) rfl (Nat.le_of_ble_eq_true rfl) dX6_init_89 ⟨by show _ ≤ 248; omega, by show _ ≤ 2603; omega⟩ (fun K_89 h_89 => ?_)
        have p_89_0 : K_89 a = some (.inr (7, [.ref (a + 1), .ref (a + 24), .ref (a + 47), .int 0, .int 0, .ref (a + 48), .ref (a + 49), .ref (a + 50), .ref (a + 53)])) := by rw [h_89.2 _ (by omega)]; exact p_85_0
        have p_89_1 : cp_state K_89 cA (a + 1) := (p_85_1).fr (fun x h1 h2 => by rw [h_89.2 _ (by omega)])
        have p_89_2 : cp_state K_89 cA (a + 24) := (p_85_2).fr (fun x h1 h2 => by rw [h_89.2 _ (by omega)])
        have p_89_3 : K_89 (a + 47) = some (.inl (cA 5, 6, .inr (.inr (.inr (.inr f))))) := by rw [h_89.2 _ (by omega)]; exact p_85_3
        have p_89_4 : K_89 (a + 48) = some (.inl (cA 5, 2, .inr (.inr (.inr (.inr f2))))) := by rw [h_89.2 _ (by omega)]; exact p_85_4
        have p_89_5 : K_89 (a + 49) = some (.inl (cA 2, 2, .inl (fun _ => 0))) := by rw [h_89.2 _ (by omega)]; exact p_85_5
        have p_89_6 : cp_text K_89 cA (a + 50) := (p_85_6).fr (fun x h1 h2 => by rw [h_89.2 _ (by omega)])
        have p_89_7 : cp_plans K_89 cA (a + 53) := (p_85_7).fr (fun x h1 h2 => by rw [h_89.2 _ (by omega)])
        have p_89_8 : ∀ j, j < i → cp_state K_89 cA (a + 65 + 23 * j) := fun j hj => (p_85_8 j hj).fr (fun x h1 h2 => by rw [h_89.2 _ (by omega)])
        have f_89 : ∀ x, x < a → K_89 x = K x := fun x hx => (show K_89 x = K_85 x by rw [h_89.2 _ (by omega)]).trans (f_85 x hx)
        refine cn_aast F (t := 5) (ci := 6) (j := i) p_89_3 h_89.1.1 rfl (F.2.1.2 5 _ rfl).2 rfl ⟨by omega, by decide⟩ dX6_init_92 ?_
        refine cn_up (fun K_92 e_92 => ?_)
        have p_92_0 : K_92 a = some (.inr (7, [.ref (a + 1), .ref (a + 24), .ref (a + 47), .int 0, .int 0, .ref (a + 48), .ref (a + 49), .ref (a + 50), .ref (a + 53)])) := by rw [e_92, cn_u_n (by omega)]; exact p_89_0
        have p_92_1 : cp_state K_92 cA (a + 1) := (p_89_1).fr (fun x h1 h2 => by rw [e_92, cn_u_n (by omega)])
        have p_92_2 : cp_state K_92 cA (a + 24) := (p_89_2).fr (fun x h1 h2 => by rw [e_92, cn_u_n (by omega)])
        have p_92_4 : K_92 (a + 48) = some (.inl (cA 5, 2, .inr (.inr (.inr (.inr f2))))) := by rw [e_92, cn_u_n (by omega)]; exact p_89_4
        have p_92_5 : K_92 (a + 49) = some (.inl (cA 2, 2, .inl (fun _ => 0))) := by rw [e_92, cn_u_n (by omega)]; exact p_89_5
        have p_92_6 : cp_text K_92 cA (a + 50) := (p_89_6).fr (fun x h1 h2 => by rw [e_92, cn_u_n (by omega)])
        have p_92_7 : cp_plans K_92 cA (a + 53) := (p_89_7).fr (fun x h1 h2 => by rw [e_92, cn_u_n (by omega)])
        have p_92_8 : ∀ j, j < i → cp_state K_92 cA (a + 65 + 23 * j) := fun j hj => (p_89_8 j hj).fr (fun x h1 h2 => by rw [e_92, cn_u_n (by omega)])
        have p_92_9 : K_92 (a + 65 + 23 * i) = some (.inr (6, [.ref (a + 65 + 23 * i + 1), .int 0, .ref (a + 65 + 23 * i + 2), .int 0, .ref (a + 65 + 23 * i + 3), .int 0, .int 0, .int 0, .int 0, .int 0, .int 0])) := by rw [e_92, cn_u_n (by omega)]; exact h_89.1.1
        have p_92_10 : cp_state K_92 cA (a + 65 + 23 * i) := (h_89.1).fr (fun x h1 h2 => by rw [e_92, cn_u_n (by omega)])
        have p_92_n : K_92 (a + 47) = some (.inl (cA 5, 6, .inr (.inr (.inr (.inr (va_up f i (some (a + 65 + 23 * i)))))))) := by rw [e_92]; exact cn_u_s _ _ _
        have f_92 : ∀ x, x < a → K_92 x = K x := fun x hx => (show K_92 x = K_89 x by rw [e_92, cn_u_n (by omega)]).trans (f_89 x hx)
        refine cn_iinc F dX6_init_93 rfl (by decide) (fun x_93 e9_93 => ?_)
        obtain rfl : x_93 = nI (i + 1) := by rw [e9_93]; exact nI_1 _
        refine cn_goto F (tgt := 74) dX6_init_96 (by decide) ?_
        refine cn_sz (sz1 := a + 65 + 23 * (i + 1)) (by omega) ?_
        refine cn_widen (k := 64 + 23 * (i + 1)) (n := 1483 + 140 * (i + 1)) (by omega) (by omega) ?_
        refine cn_loc (L2 := [(0, .ref a), (1, .int (nI (i + 1)))]) rfl ?_
        exact ih_74 (i + 1) K_92 _ f2 (by omega) p_92_0 p_92_1 p_92_2 p_92_n p_92_4 p_92_5 p_92_6 p_92_7 (fun j hj => by
            unfold va_up
            by_cases e : j = i
            · rw [if_pos e, e]
            · rw [if_neg e]; exact hf j (by omega)) (fun j hj => by
            by_cases e : j = i
            · rw [e]; exact p_92_10
            · exact p_92_8 j (by omega)) f_92 (by omega)
  refine cn_aload_n F (i := 0) dX6_init_0 rfl rfl ?_
  refine cn_objInit F (F.1.2.2.2.2 _ (List.mem_of_getElem? (l := wsX6_init) (i := 1) (a := .methodLink RX6 1 objectInit) (by decide +kernel))) (F.1.2.2.2.2 _ (List.mem_of_getElem? (l := wsX6_init) (i := 2) (a := .instanceMethod objectInit) (by decide +kernel))) (F.1.2.2.2.2 _ (List.mem_of_getElem? (l := wsX6_init) (i := 3) (a := .code objectInit ⟨#[0xb1]⟩ 1 none) (by decide +kernel))) dX6_init_1 ⟨Nat.le_of_ble_eq_true rfl, Nat.le_of_ble_eq_true rfl⟩ ?_
  refine cn_aload_n F (i := 0) dX6_init_4 rfl rfl ?_
  refine cn_new F (C := RX5) (T := TX5) (N := 11) (ci := 6) (fs := [.null, .int 0, .null, .int 0, .null, .int 0, .int 0, .int 0, .int 0, .int 0, .int 0]) rfl inX5 tyX5 tyX5_ok (F.1.2.2.2.2 _ (List.mem_of_getElem? (l := wsX6_init) (i := 4) (a := .classLink RX6 7 RX5) (by decide +kernel))) (F.1.2.2.2.2 _ (List.mem_of_getElem? (l := wsX6_init) (i := 5) (a := .instantiable RX5 11) (by decide +kernel))) (F.1.2.2.2.2 _ (List.mem_of_getElem? (l := wsX6_init) (i := 6) (a := .initialized RX5) (by decide +kernel))) (fun j hj => by rcases (show j = 0 ∨ j = 1 ∨ j = 2 ∨ j = 3 ∨ j = 4 ∨ j = 5 ∨ j = 6 ∨ j = 7 ∨ j = 8 ∨ j = 9 ∨ j = 10 by omega) with rfl | rfl | rfl | rfl | rfl | rfl | rfl | rfl | rfl | rfl | rfl <;> rfl) ⟨Nat.le_of_ble_eq_true rfl, Nat.le_of_ble_eq_true rfl⟩ dX6_init_5 ?_
  refine cn_up (fun K_5 e_5 => ?_)
  have p_5_0 : K_5 a = some (.inr (7, [.null, .null, .null, .int 0, .int 0, .null, .null, .null, .null])) := by rw [e_5, cn_u_n (by omega)]; exact h0
  have p_5_n : K_5 (a + 1) = some (.inr (6, [.null, .int 0, .null, .int 0, .null, .int 0, .int 0, .int 0, .int 0, .int 0, .int 0])) := by rw [e_5]; exact cn_u_s _ _ _
  have f_5 : ∀ x, x < a → K_5 x = K x := fun x hx => (show K_5 x = K x by rw [e_5, cn_u_n (by omega)]).trans ((fun _ _ => rfl) x hx)
  refine cn_dup F dX6_init_8 rfl ?_
  refine cn_callI F O (kX5_init l D cA Bs (a + 1) K_5 p_5_n) (cwI 0 F.1.2.2.2.2 gX6_init_X5_init rfl rfl rfl (F.1.2.2.2.2 _ (List.mem_of_getElem? (l := wsX6_init) (i := 6) (a := .initialized RX5) (by decide +kernel))) (F.1.2.2.2.2 _ (List.mem_of_getElem? (l := wsX6_init) (i := 21) (a := .methodLink RX6 9 yX5_init) (by decide +kernel))) (F.1.2.2.2.2 _ (List.mem_of_getElem? (l := wsX6_init) (i := 22) (a := .instanceMethod yX5_init) (by decide +kernel))) rfl (by decide +kernel) ⟨Nat.le_of_ble_eq_true rfl, Nat.le_of_ble_eq_true rfl⟩) rfl (Nat.le_of_ble_eq_true rfl) dX6_init_9 ⟨Nat.le_of_ble_eq_true rfl, Nat.le_of_ble_eq_true rfl⟩ (fun K_9 h_9 => ?_)
  have p_9_0 : K_9 a = some (.inr (7, [.null, .null, .null, .int 0, .int 0, .null, .null, .null, .null])) := by rw [h_9.2 _ (by omega)]; exact p_5_0
  have f_9 : ∀ x, x < a → K_9 x = K x := fun x hx => (show K_9 x = K_5 x by rw [h_9.2 _ (by omega)]).trans (f_5 x hx)
  refine cn_putF F (C := RX6) (T := TX6) (N := 9) (ci := 7) (fs := [.null, .null, .null, .int 0, .int 0, .null, .null, .null, .null]) p_9_0 rfl inX6 tyX6 tyX6_ok nmX6 0 (by decide) (F.1.2.2.2.2 _ (List.mem_of_getElem? (l := wsX6_init) (i := 7) (a := .fieldLink RX6 10 "CordClock" "now" "LCordClock$State;") (by decide +kernel))) rfl hnm rfl rfl rfl (Nat.le_of_ble_eq_true rfl) dX6_init_12 ?_
  refine cn_up (fun K_12 e_12 => ?_)
  have p_12_1 : cp_state K_12 cA (a + 1) := (h_9.1).fr (fun x h1 h2 => by rw [e_12, cn_u_n (by omega)])
  have p_12_n : K_12 a = some (.inr (7, [.ref (a + 1), .null, .null, .int 0, .int 0, .null, .null, .null, .null])) := by rw [e_12]; exact cn_u_s _ _ _
  have f_12 : ∀ x, x < a → K_12 x = K x := fun x hx => (show K_12 x = K_9 x by rw [e_12, cn_u_n (by omega)]).trans (f_9 x hx)
  refine cn_aload_n F (i := 0) dX6_init_15 rfl rfl ?_
  refine cn_new F (C := RX5) (T := TX5) (N := 11) (ci := 6) (fs := [.null, .int 0, .null, .int 0, .null, .int 0, .int 0, .int 0, .int 0, .int 0, .int 0]) rfl inX5 tyX5 tyX5_ok (F.1.2.2.2.2 _ (List.mem_of_getElem? (l := wsX6_init) (i := 4) (a := .classLink RX6 7 RX5) (by decide +kernel))) (F.1.2.2.2.2 _ (List.mem_of_getElem? (l := wsX6_init) (i := 5) (a := .instantiable RX5 11) (by decide +kernel))) (F.1.2.2.2.2 _ (List.mem_of_getElem? (l := wsX6_init) (i := 6) (a := .initialized RX5) (by decide +kernel))) (fun j hj => by rcases (show j = 0 ∨ j = 1 ∨ j = 2 ∨ j = 3 ∨ j = 4 ∨ j = 5 ∨ j = 6 ∨ j = 7 ∨ j = 8 ∨ j = 9 ∨ j = 10 by omega) with rfl | rfl | rfl | rfl | rfl | rfl | rfl | rfl | rfl | rfl | rfl <;> rfl) ⟨Nat.le_of_ble_eq_true rfl, Nat.le_of_ble_eq_true rfl⟩ dX6_init_16 ?_
  refine cn_up (fun K_16 e_16 => ?_)
  have p_16_0 : cp_state K_16 cA (a + 1) := (p_12_1).fr (fun x h1 h2 => by rw [e_16, cn_u_n (by omega)])
  have p_16_1 : K_16 a = some (.inr (7, [.ref (a + 1), .null, .null, .int 0, .int 0, .null, .null, .null, .null])) := by rw [e_16, cn_u_n (by omega)]; exact p_12_n
  have p_16_n : K_16 ((a + 1) + 23) = some (.inr (6, [.null, .int 0, .null, .int 0, .null, .int 0, .int 0, .int 0, .int 0, .int 0, .int 0])) := by rw [e_16]; exact cn_u_s _ _ _
  have f_16 : ∀ x, x < a → K_16 x = K x := fun x hx => (show K_16 x = K_12 x by rw [e_16, cn_u_n (by omega)]).trans (f_12 x hx)
  refine cn_dup F dX6_init_19 rfl ?_
  refine cn_callI F O (kX5_init l D cA Bs ((a + 1) + 23) K_16 p_16_n) (cwI 0 F.1.2.2.2.2 gX6_init_X5_init rfl rfl rfl (F.1.2.2.2.2 _ (List.mem_of_getElem? (l := wsX6_init) (i := 6) (a := .initialized RX5) (by decide +kernel))) (F.1.2.2.2.2 _ (List.mem_of_getElem? (l := wsX6_init) (i := 21) (a := .methodLink RX6 9 yX5_init) (by decide +kernel))) (F.1.2.2.2.2 _ (List.mem_of_getElem? (l := wsX6_init) (i := 22) (a := .instanceMethod yX5_init) (by decide +kernel))) rfl (by decide +kernel) ⟨Nat.le_of_ble_eq_true rfl, Nat.le_of_ble_eq_true rfl⟩) rfl (Nat.le_of_ble_eq_true rfl) dX6_init_20 ⟨Nat.le_of_ble_eq_true rfl, Nat.le_of_ble_eq_true rfl⟩ (fun K_20 h_20 => ?_)
  have p_20_0 : cp_state K_20 cA (a + 1) := (p_16_0).fr (fun x h1 h2 => by rw [h_20.2 _ (by omega)])
  have p_20_1 : K_20 a = some (.inr (7, [.ref (a + 1), .null, .null, .int 0, .int 0, .null, .null, .null, .null])) := by rw [h_20.2 _ (by omega)]; exact p_16_1
  have f_20 : ∀ x, x < a → K_20 x = K x := fun x hx => (show K_20 x = K_16 x by rw [h_20.2 _ (by omega)]).trans (f_16 x hx)
  refine cn_putF F (C := RX6) (T := TX6) (N := 9) (ci := 7) (fs := [.ref (a + 1), .null, .null, .int 0, .int 0, .null, .null, .null, .null]) p_20_1 rfl inX6 tyX6 tyX6_ok nmX6 1 (by decide) (F.1.2.2.2.2 _ (List.mem_of_getElem? (l := wsX6_init) (i := 8) (a := .fieldLink RX6 16 "CordClock" "foreseen" "LCordClock$State;") (by decide +kernel))) rfl hnm rfl rfl rfl (Nat.le_of_ble_eq_true rfl) dX6_init_23 ?_
  refine cn_up (fun K_23 e_23 => ?_)
  have p_23_0 : cp_state K_23 cA (a + 1) := (p_20_0).fr (fun x h1 h2 => by rw [e_23, cn_u_n (by omega)])
  have p_23_2 : cp_state K_23 cA ((a + 1) + 23) := (h_20.1).fr (fun x h1 h2 => by rw [e_23, cn_u_n (by omega)])
  have p_23_n : K_23 a = some (.inr (7, [.ref (a + 1), .ref ((a + 1) + 23), .null, .int 0, .int 0, .null, .null, .null, .null])) := by rw [e_23]; exact cn_u_s _ _ _
  have f_23 : ∀ x, x < a → K_23 x = K x := fun x hx => (show K_23 x = K_20 x by rw [e_23, cn_u_n (by omega)]).trans (f_20 x hx)
  refine cn_aload_n F (i := 0) dX6_init_26 rfl rfl ?_
  refine cn_bipush F (v := 6) dX6_init_27 (by decide) ?_
  refine cn_newq F (t := 5) (N := 6) (C := "CordClock$State") (F.1.2.2.2.2 _ (List.mem_of_getElem? (l := wsX6_init) (i := 4) (a := .classLink RX6 7 RX5) (by decide +kernel))) O.2.2.1.use (show va_RA _ (cA 5) (.object "CordClock$State") from (F.2.1.2 5 _ rfl).2).choose_spec.choose_spec.2.2.2 (by decide) (by decide) (Nat.le_of_ble_eq_true rfl) ⟨Nat.le_of_ble_eq_true rfl, Nat.le_of_ble_eq_true rfl⟩ dX6_init_29 ?_
  refine cn_up (fun K_29 e_29 => ?_)
  have p_29_0 : cp_state K_29 cA (a + 1) := (p_23_0).fr (fun x h1 h2 => by rw [e_29, cn_u_n (by omega)])
  have p_29_1 : cp_state K_29 cA ((a + 1) + 23) := (p_23_2).fr (fun x h1 h2 => by rw [e_29, cn_u_n (by omega)])
  have p_29_2 : K_29 a = some (.inr (7, [.ref (a + 1), .ref ((a + 1) + 23), .null, .int 0, .int 0, .null, .null, .null, .null])) := by rw [e_29, cn_u_n (by omega)]; exact p_23_n
  have p_29_n : K_29 (((a + 1) + 23) + 23) = some (.inl (cA 5, 6, .inr (.inr (.inr (.inr (fun _ => none)))))) := by rw [e_29]; exact cn_u_s _ _ _
  have f_29 : ∀ x, x < a → K_29 x = K x := fun x hx => (show K_29 x = K_23 x by rw [e_29, cn_u_n (by omega)]).trans (f_23 x hx)
  refine cn_putF F (C := RX6) (T := TX6) (N := 9) (ci := 7) (fs := [.ref (a + 1), .ref ((a + 1) + 23), .null, .int 0, .int 0, .null, .null, .null, .null]) p_29_2 rfl inX6 tyX6 tyX6_ok nmX6 2 (by decide) (F.1.2.2.2.2 _ (List.mem_of_getElem? (l := wsX6_init) (i := 9) (a := .fieldLink RX6 19 "CordClock" "saved" "[LCordClock$State;") (by decide +kernel))) rfl hnm rfl rfl rfl (Nat.le_of_ble_eq_true rfl) dX6_init_32 ?_
  refine cn_up (fun K_32 e_32 => ?_)
  have p_32_0 : cp_state K_32 cA (a + 1) := (p_29_0).fr (fun x h1 h2 => by rw [e_32, cn_u_n (by omega)])
  have p_32_1 : cp_state K_32 cA ((a + 1) + 23) := (p_29_1).fr (fun x h1 h2 => by rw [e_32, cn_u_n (by omega)])
  have p_32_3 : K_32 (((a + 1) + 23) + 23) = some (.inl (cA 5, 6, .inr (.inr (.inr (.inr (fun _ => none)))))) := by rw [e_32, cn_u_n (by omega)]; exact p_29_n
  have p_32_n : K_32 a = some (.inr (7, [.ref (a + 1), .ref ((a + 1) + 23), .ref (((a + 1) + 23) + 23), .int 0, .int 0, .null, .null, .null, .null])) := by rw [e_32]; exact cn_u_s _ _ _
  have f_32 : ∀ x, x < a → K_32 x = K x := fun x hx => (show K_32 x = K_29 x by rw [e_32, cn_u_n (by omega)]).trans (f_29 x hx)
  refine cn_aload_n F (i := 0) dX6_init_35 rfl rfl ?_
  refine cn_iconst F (v := 2) dX6_init_36 rfl ?_
  refine cn_newq F (t := 5) (N := 2) (C := "CordClock$State") (F.1.2.2.2.2 _ (List.mem_of_getElem? (l := wsX6_init) (i := 4) (a := .classLink RX6 7 RX5) (by decide +kernel))) O.2.2.1.use (show va_RA _ (cA 5) (.object "CordClock$State") from (F.2.1.2 5 _ rfl).2).choose_spec.choose_spec.2.2.2 (by decide) (by decide) (Nat.le_of_ble_eq_true rfl) ⟨Nat.le_of_ble_eq_true rfl, Nat.le_of_ble_eq_true rfl⟩ dX6_init_37 ?_
  refine cn_up (fun K_37 e_37 => ?_)
  have p_37_0 : cp_state K_37 cA (a + 1) := (p_32_0).fr (fun x h1 h2 => by rw [e_37, cn_u_n (by omega)])
  have p_37_1 : cp_state K_37 cA ((a + 1) + 23) := (p_32_1).fr (fun x h1 h2 => by rw [e_37, cn_u_n (by omega)])
  have p_37_2 : K_37 (((a + 1) + 23) + 23) = some (.inl (cA 5, 6, .inr (.inr (.inr (.inr (fun _ => none)))))) := by rw [e_37, cn_u_n (by omega)]; exact p_32_3
  have p_37_3 : K_37 a = some (.inr (7, [.ref (a + 1), .ref ((a + 1) + 23), .ref (((a + 1) + 23) + 23), .int 0, .int 0, .null, .null, .null, .null])) := by rw [e_37, cn_u_n (by omega)]; exact p_32_n
  have p_37_n : K_37 (((a + 1) + 23) + 23 + 1) = some (.inl (cA 5, 2, .inr (.inr (.inr (.inr (fun _ => none)))))) := by rw [e_37]; exact cn_u_s _ _ _
  have f_37 : ∀ x, x < a → K_37 x = K x := fun x hx => (show K_37 x = K_32 x by rw [e_37, cn_u_n (by omega)]).trans (f_32 x hx)
  refine cn_putF F (C := RX6) (T := TX6) (N := 9) (ci := 7) (fs := [.ref (a + 1), .ref ((a + 1) + 23), .ref (((a + 1) + 23) + 23), .int 0, .int 0, .null, .null, .null, .null]) p_37_3 rfl inX6 tyX6 tyX6_ok nmX6 5 (by decide) (F.1.2.2.2.2 _ (List.mem_of_getElem? (l := wsX6_init) (i := 10) (a := .fieldLink RX6 23 "CordClock" "snapshots" "[LCordClock$State;") (by decide +kernel))) rfl hnm rfl rfl rfl (Nat.le_of_ble_eq_true rfl) dX6_init_40 ?_
  refine cn_up (fun K_40 e_40 => ?_)
  have p_40_0 : cp_state K_40 cA (a + 1) := (p_37_0).fr (fun x h1 h2 => by rw [e_40, cn_u_n (by omega)])
  have p_40_1 : cp_state K_40 cA ((a + 1) + 23) := (p_37_1).fr (fun x h1 h2 => by rw [e_40, cn_u_n (by omega)])
  have p_40_2 : K_40 (((a + 1) + 23) + 23) = some (.inl (cA 5, 6, .inr (.inr (.inr (.inr (fun _ => none)))))) := by rw [e_40, cn_u_n (by omega)]; exact p_37_2
  have p_40_4 : K_40 (((a + 1) + 23) + 23 + 1) = some (.inl (cA 5, 2, .inr (.inr (.inr (.inr (fun _ => none)))))) := by rw [e_40, cn_u_n (by omega)]; exact p_37_n
  have p_40_n : K_40 a = some (.inr (7, [.ref (a + 1), .ref ((a + 1) + 23), .ref (((a + 1) + 23) + 23), .int 0, .int 0, .ref (((a + 1) + 23) + 23 + 1), .null, .null, .null])) := by rw [e_40]; exact cn_u_s _ _ _
  have f_40 : ∀ x, x < a → K_40 x = K x := fun x hx => (show K_40 x = K_37 x by rw [e_40, cn_u_n (by omega)]).trans (f_37 x hx)
  refine cn_aload_n F (i := 0) dX6_init_43 rfl rfl ?_
  refine cn_iconst F (v := 2) dX6_init_44 rfl ?_
  refine cn_newa F (atype := .boolean) (t := 2) (a0 := (2, .inl (fun _ => 0))) (N := 2) (F.1.2.2.2.2 _ (List.mem_of_getElem? (l := wsX6_init) (i := 11) (a := .arrayClass .boolean) (by decide +kernel))) (F.2.1.2 2 _ rfl).2 rfl (by decide) (by decide) (Nat.le_of_ble_eq_true rfl) ⟨Nat.le_of_ble_eq_true rfl, Nat.le_of_ble_eq_true rfl⟩ dX6_init_45 ?_
  refine cn_up (fun K_45 e_45 => ?_)
  have p_45_0 : cp_state K_45 cA (a + 1) := (p_40_0).fr (fun x h1 h2 => by rw [e_45, cn_u_n (by omega)])
  have p_45_1 : cp_state K_45 cA ((a + 1) + 23) := (p_40_1).fr (fun x h1 h2 => by rw [e_45, cn_u_n (by omega)])
  have p_45_2 : K_45 (((a + 1) + 23) + 23) = some (.inl (cA 5, 6, .inr (.inr (.inr (.inr (fun _ => none)))))) := by rw [e_45, cn_u_n (by omega)]; exact p_40_2
  have p_45_3 : K_45 (((a + 1) + 23) + 23 + 1) = some (.inl (cA 5, 2, .inr (.inr (.inr (.inr (fun _ => none)))))) := by rw [e_45, cn_u_n (by omega)]; exact p_40_4
  have p_45_4 : K_45 a = some (.inr (7, [.ref (a + 1), .ref ((a + 1) + 23), .ref (((a + 1) + 23) + 23), .int 0, .int 0, .ref (((a + 1) + 23) + 23 + 1), .null, .null, .null])) := by rw [e_45, cn_u_n (by omega)]; exact p_40_n
  have p_45_n : K_45 (((a + 1) + 23) + 23 + 1 + 1) = some (.inl (cA 2, 2, .inl (fun _ => 0))) := by rw [e_45]; exact cn_u_s _ _ _
  have f_45 : ∀ x, x < a → K_45 x = K x := fun x hx => (show K_45 x = K_40 x by rw [e_45, cn_u_n (by omega)]).trans (f_40 x hx)
  refine cn_putF F (C := RX6) (T := TX6) (N := 9) (ci := 7) (fs := [.ref (a + 1), .ref ((a + 1) + 23), .ref (((a + 1) + 23) + 23), .int 0, .int 0, .ref (((a + 1) + 23) + 23 + 1), .null, .null, .null]) p_45_4 rfl inX6 tyX6 tyX6_ok nmX6 6 (by decide) (F.1.2.2.2.2 _ (List.mem_of_getElem? (l := wsX6_init) (i := 12) (a := .fieldLink RX6 26 "CordClock" "taken" "[Z") (by decide +kernel))) rfl hnm rfl rfl rfl (Nat.le_of_ble_eq_true rfl) dX6_init_47 ?_
  refine cn_up (fun K_47 e_47 => ?_)
  have p_47_0 : cp_state K_47 cA (a + 1) := (p_45_0).fr (fun x h1 h2 => by rw [e_47, cn_u_n (by omega)])
  have p_47_1 : cp_state K_47 cA ((a + 1) + 23) := (p_45_1).fr (fun x h1 h2 => by rw [e_47, cn_u_n (by omega)])
  have p_47_2 : K_47 (((a + 1) + 23) + 23) = some (.inl (cA 5, 6, .inr (.inr (.inr (.inr (fun _ => none)))))) := by rw [e_47, cn_u_n (by omega)]; exact p_45_2
  have p_47_3 : K_47 (((a + 1) + 23) + 23 + 1) = some (.inl (cA 5, 2, .inr (.inr (.inr (.inr (fun _ => none)))))) := by rw [e_47, cn_u_n (by omega)]; exact p_45_3
  have p_47_5 : K_47 (((a + 1) + 23) + 23 + 1 + 1) = some (.inl (cA 2, 2, .inl (fun _ => 0))) := by rw [e_47, cn_u_n (by omega)]; exact p_45_n
  have p_47_n : K_47 a = some (.inr (7, [.ref (a + 1), .ref ((a + 1) + 23), .ref (((a + 1) + 23) + 23), .int 0, .int 0, .ref (((a + 1) + 23) + 23 + 1), .ref (((a + 1) + 23) + 23 + 1 + 1), .null, .null])) := by rw [e_47]; exact cn_u_s _ _ _
  have f_47 : ∀ x, x < a → K_47 x = K x := fun x hx => (show K_47 x = K_45 x by rw [e_47, cn_u_n (by omega)]).trans (f_45 x hx)
  refine cn_aload_n F (i := 0) dX6_init_50 rfl rfl ?_
  refine cn_new F (C := RX2) (T := TX2) (N := 10) (ci := 3) (fs := [.null, .int 0, .int 0, .int 0, .null, .int 0, .int 0, .int 0, .int 0, .int 0]) rfl inX2 tyX2 tyX2_ok (F.1.2.2.2.2 _ (List.mem_of_getElem? (l := wsX6_init) (i := 13) (a := .classLink RX6 30 RX2) (by decide +kernel))) (F.1.2.2.2.2 _ (List.mem_of_getElem? (l := wsX6_init) (i := 14) (a := .instantiable RX2 10) (by decide +kernel))) (F.1.2.2.2.2 _ (List.mem_of_getElem? (l := wsX6_init) (i := 15) (a := .initialized RX2) (by decide +kernel))) (fun j hj => by rcases (show j = 0 ∨ j = 1 ∨ j = 2 ∨ j = 3 ∨ j = 4 ∨ j = 5 ∨ j = 6 ∨ j = 7 ∨ j = 8 ∨ j = 9 by omega) with rfl | rfl | rfl | rfl | rfl | rfl | rfl | rfl | rfl | rfl <;> rfl) ⟨Nat.le_of_ble_eq_true rfl, Nat.le_of_ble_eq_true rfl⟩ dX6_init_51 ?_
  refine cn_up (fun K_51 e_51 => ?_)
  have p_51_0 : cp_state K_51 cA (a + 1) := (p_47_0).fr (fun x h1 h2 => by rw [e_51, cn_u_n (by omega)])
  have p_51_1 : cp_state K_51 cA ((a + 1) + 23) := (p_47_1).fr (fun x h1 h2 => by rw [e_51, cn_u_n (by omega)])
  have p_51_2 : K_51 (((a + 1) + 23) + 23) = some (.inl (cA 5, 6, .inr (.inr (.inr (.inr (fun _ => none)))))) := by rw [e_51, cn_u_n (by omega)]; exact p_47_2
  have p_51_3 : K_51 (((a + 1) + 23) + 23 + 1) = some (.inl (cA 5, 2, .inr (.inr (.inr (.inr (fun _ => none)))))) := by rw [e_51, cn_u_n (by omega)]; exact p_47_3
  have p_51_4 : K_51 (((a + 1) + 23) + 23 + 1 + 1) = some (.inl (cA 2, 2, .inl (fun _ => 0))) := by rw [e_51, cn_u_n (by omega)]; exact p_47_5
  have p_51_5 : K_51 a = some (.inr (7, [.ref (a + 1), .ref ((a + 1) + 23), .ref (((a + 1) + 23) + 23), .int 0, .int 0, .ref (((a + 1) + 23) + 23 + 1), .ref (((a + 1) + 23) + 23 + 1 + 1), .null, .null])) := by rw [e_51, cn_u_n (by omega)]; exact p_47_n
  have p_51_n : K_51 (((a + 1) + 23) + 23 + 1 + 1 + 1) = some (.inr (3, [.null, .int 0, .int 0, .int 0, .null, .int 0, .int 0, .int 0, .int 0, .int 0])) := by rw [e_51]; exact cn_u_s _ _ _
  have f_51 : ∀ x, x < a → K_51 x = K x := fun x hx => (show K_51 x = K_47 x by rw [e_51, cn_u_n (by omega)]).trans (f_47 x hx)
  refine cn_dup F dX6_init_54 rfl ?_
  refine cn_callIN F O (kX2_init l D cA Bs (((a + 1) + 23) + 23 + 1 + 1 + 1) K_51 p_51_n) ⟨va_cnB 0 F.1.2.2.2.2 ggX6_init_X2_init rfl rfl rfl (F.2.2.2.2.2.1 _ (List.mem_of_getElem? (l := cq_nm) (i := 0) rfl)) (F.1.2.2.2.2 _ (List.mem_of_getElem? (l := wsX6_init) (i := 15) (a := .initialized RX2) (by decide +kernel))) (by decide +kernel) ⟨Nat.le_of_ble_eq_true rfl, Nat.le_of_ble_eq_true rfl⟩, rfl, (F.1.2.2.2.2 _ (List.mem_of_getElem? (l := wsX6_init) (i := 52) (a := .instanceMethod yX2_init) (by decide +kernel)))⟩ rfl (Nat.le_of_ble_eq_true rfl) dX6_init_55 ⟨Nat.le_of_ble_eq_true rfl, Nat.le_of_ble_eq_true rfl⟩ (fun K_55 h_55 => ?_)
  have p_55_0 : cp_state K_55 cA (a + 1) := (p_51_0).fr (fun x h1 h2 => by rw [h_55.2 _ (by omega)])
  have p_55_1 : cp_state K_55 cA ((a + 1) + 23) := (p_51_1).fr (fun x h1 h2 => by rw [h_55.2 _ (by omega)])
  have p_55_2 : K_55 (((a + 1) + 23) + 23) = some (.inl (cA 5, 6, .inr (.inr (.inr (.inr (fun _ => none)))))) := by rw [h_55.2 _ (by omega)]; exact p_51_2
  have p_55_3 : K_55 (((a + 1) + 23) + 23 + 1) = some (.inl (cA 5, 2, .inr (.inr (.inr (.inr (fun _ => none)))))) := by rw [h_55.2 _ (by omega)]; exact p_51_3
  have p_55_4 : K_55 (((a + 1) + 23) + 23 + 1 + 1) = some (.inl (cA 2, 2, .inl (fun _ => 0))) := by rw [h_55.2 _ (by omega)]; exact p_51_4
  have p_55_5 : K_55 a = some (.inr (7, [.ref (a + 1), .ref ((a + 1) + 23), .ref (((a + 1) + 23) + 23), .int 0, .int 0, .ref (((a + 1) + 23) + 23 + 1), .ref (((a + 1) + 23) + 23 + 1 + 1), .null, .null])) := by rw [h_55.2 _ (by omega)]; exact p_51_5
  have f_55 : ∀ x, x < a → K_55 x = K x := fun x hx => (show K_55 x = K_51 x by rw [h_55.2 _ (by omega)]).trans (f_51 x hx)
  refine cn_putF F (C := RX6) (T := TX6) (N := 9) (ci := 7) (fs := [.ref (a + 1), .ref ((a + 1) + 23), .ref (((a + 1) + 23) + 23), .int 0, .int 0, .ref (((a + 1) + 23) + 23 + 1), .ref (((a + 1) + 23) + 23 + 1 + 1), .null, .null]) p_55_5 rfl inX6 tyX6 tyX6_ok nmX6 7 (by decide) (F.1.2.2.2.2 _ (List.mem_of_getElem? (l := wsX6_init) (i := 16) (a := .fieldLink RX6 33 "CordClock" "text" "LCordClock$OrderText;") (by decide +kernel))) rfl hnm rfl rfl rfl (Nat.le_of_ble_eq_true rfl) dX6_init_58 ?_
  refine cn_up (fun K_58 e_58 => ?_)
  have p_58_0 : cp_state K_58 cA (a + 1) := (p_55_0).fr (fun x h1 h2 => by rw [e_58, cn_u_n (by omega)])
  have p_58_1 : cp_state K_58 cA ((a + 1) + 23) := (p_55_1).fr (fun x h1 h2 => by rw [e_58, cn_u_n (by omega)])
  have p_58_2 : K_58 (((a + 1) + 23) + 23) = some (.inl (cA 5, 6, .inr (.inr (.inr (.inr (fun _ => none)))))) := by rw [e_58, cn_u_n (by omega)]; exact p_55_2
  have p_58_3 : K_58 (((a + 1) + 23) + 23 + 1) = some (.inl (cA 5, 2, .inr (.inr (.inr (.inr (fun _ => none)))))) := by rw [e_58, cn_u_n (by omega)]; exact p_55_3
  have p_58_4 : K_58 (((a + 1) + 23) + 23 + 1 + 1) = some (.inl (cA 2, 2, .inl (fun _ => 0))) := by rw [e_58, cn_u_n (by omega)]; exact p_55_4
  have p_58_6 : cp_text K_58 cA (((a + 1) + 23) + 23 + 1 + 1 + 1) := (h_55.1).fr (fun x h1 h2 => by rw [e_58, cn_u_n (by omega)])
  have p_58_n : K_58 a = some (.inr (7, [.ref (a + 1), .ref ((a + 1) + 23), .ref (((a + 1) + 23) + 23), .int 0, .int 0, .ref (((a + 1) + 23) + 23 + 1), .ref (((a + 1) + 23) + 23 + 1 + 1), .ref (((a + 1) + 23) + 23 + 1 + 1 + 1), .null])) := by rw [e_58]; exact cn_u_s _ _ _
  have f_58 : ∀ x, x < a → K_58 x = K x := fun x hx => (show K_58 x = K_55 x by rw [e_58, cn_u_n (by omega)]).trans (f_55 x hx)
  refine cn_aload_n F (i := 0) dX6_init_61 rfl rfl ?_
  refine cn_new F (C := RX3) (T := TX3) (N := 4) (ci := 4) (fs := [.null, .null, .null, .int 0]) rfl inX3 tyX3 tyX3_ok (F.1.2.2.2.2 _ (List.mem_of_getElem? (l := wsX6_init) (i := 17) (a := .classLink RX6 37 RX3) (by decide +kernel))) (F.1.2.2.2.2 _ (List.mem_of_getElem? (l := wsX6_init) (i := 18) (a := .instantiable RX3 4) (by decide +kernel))) (F.1.2.2.2.2 _ (List.mem_of_getElem? (l := wsX6_init) (i := 19) (a := .initialized RX3) (by decide +kernel))) (fun j hj => by rcases (show j = 0 ∨ j = 1 ∨ j = 2 ∨ j = 3 by omega) with rfl | rfl | rfl | rfl <;> rfl) ⟨Nat.le_of_ble_eq_true rfl, Nat.le_of_ble_eq_true rfl⟩ dX6_init_62 ?_
  refine cn_up (fun K_62 e_62 => ?_)
  have p_62_0 : cp_state K_62 cA (a + 1) := (p_58_0).fr (fun x h1 h2 => by rw [e_62, cn_u_n (by omega)])
  have p_62_1 : cp_state K_62 cA ((a + 1) + 23) := (p_58_1).fr (fun x h1 h2 => by rw [e_62, cn_u_n (by omega)])
  have p_62_2 : K_62 (((a + 1) + 23) + 23) = some (.inl (cA 5, 6, .inr (.inr (.inr (.inr (fun _ => none)))))) := by rw [e_62, cn_u_n (by omega)]; exact p_58_2
  have p_62_3 : K_62 (((a + 1) + 23) + 23 + 1) = some (.inl (cA 5, 2, .inr (.inr (.inr (.inr (fun _ => none)))))) := by rw [e_62, cn_u_n (by omega)]; exact p_58_3
  have p_62_4 : K_62 (((a + 1) + 23) + 23 + 1 + 1) = some (.inl (cA 2, 2, .inl (fun _ => 0))) := by rw [e_62, cn_u_n (by omega)]; exact p_58_4
  have p_62_5 : cp_text K_62 cA (((a + 1) + 23) + 23 + 1 + 1 + 1) := (p_58_6).fr (fun x h1 h2 => by rw [e_62, cn_u_n (by omega)])
  have p_62_6 : K_62 a = some (.inr (7, [.ref (a + 1), .ref ((a + 1) + 23), .ref (((a + 1) + 23) + 23), .int 0, .int 0, .ref (((a + 1) + 23) + 23 + 1), .ref (((a + 1) + 23) + 23 + 1 + 1), .ref (((a + 1) + 23) + 23 + 1 + 1 + 1), .null])) := by rw [e_62, cn_u_n (by omega)]; exact p_58_n
  have p_62_n : K_62 ((((a + 1) + 23) + 23 + 1 + 1 + 1) + 3) = some (.inr (4, [.null, .null, .null, .int 0])) := by rw [e_62]; exact cn_u_s _ _ _
  have f_62 : ∀ x, x < a → K_62 x = K x := fun x hx => (show K_62 x = K_58 x by rw [e_62, cn_u_n (by omega)]).trans (f_58 x hx)
  refine cn_dup F dX6_init_65 rfl ?_
  refine cn_callIN F O (kX3_init l D cA Bs ((((a + 1) + 23) + 23 + 1 + 1 + 1) + 3) K_62 p_62_n) ⟨va_cnB 0 F.1.2.2.2.2 ggX6_init_X3_init rfl rfl rfl (F.2.2.2.2.2.1 _ (List.mem_of_getElem? (l := cq_nm) (i := 1) rfl)) (F.1.2.2.2.2 _ (List.mem_of_getElem? (l := wsX6_init) (i := 19) (a := .initialized RX3) (by decide +kernel))) (by decide +kernel) ⟨Nat.le_of_ble_eq_true rfl, Nat.le_of_ble_eq_true rfl⟩, rfl, (F.1.2.2.2.2 _ (List.mem_of_getElem? (l := wsX6_init) (i := 58) (a := .instanceMethod yX3_init) (by decide +kernel)))⟩ rfl (Nat.le_of_ble_eq_true rfl) dX6_init_66 ⟨Nat.le_of_ble_eq_true rfl, Nat.le_of_ble_eq_true rfl⟩ (fun K_66 h_66 => ?_)
  have p_66_0 : cp_state K_66 cA (a + 1) := (p_62_0).fr (fun x h1 h2 => by rw [h_66.2 _ (by omega)])
  have p_66_1 : cp_state K_66 cA ((a + 1) + 23) := (p_62_1).fr (fun x h1 h2 => by rw [h_66.2 _ (by omega)])
  have p_66_2 : K_66 (((a + 1) + 23) + 23) = some (.inl (cA 5, 6, .inr (.inr (.inr (.inr (fun _ => none)))))) := by rw [h_66.2 _ (by omega)]; exact p_62_2
  have p_66_3 : K_66 (((a + 1) + 23) + 23 + 1) = some (.inl (cA 5, 2, .inr (.inr (.inr (.inr (fun _ => none)))))) := by rw [h_66.2 _ (by omega)]; exact p_62_3
  have p_66_4 : K_66 (((a + 1) + 23) + 23 + 1 + 1) = some (.inl (cA 2, 2, .inl (fun _ => 0))) := by rw [h_66.2 _ (by omega)]; exact p_62_4
  have p_66_5 : cp_text K_66 cA (((a + 1) + 23) + 23 + 1 + 1 + 1) := (p_62_5).fr (fun x h1 h2 => by rw [h_66.2 _ (by omega)])
  have p_66_6 : K_66 a = some (.inr (7, [.ref (a + 1), .ref ((a + 1) + 23), .ref (((a + 1) + 23) + 23), .int 0, .int 0, .ref (((a + 1) + 23) + 23 + 1), .ref (((a + 1) + 23) + 23 + 1 + 1), .ref (((a + 1) + 23) + 23 + 1 + 1 + 1), .null])) := by rw [h_66.2 _ (by omega)]; exact p_62_6
  have f_66 : ∀ x, x < a → K_66 x = K x := fun x hx => (show K_66 x = K_62 x by rw [h_66.2 _ (by omega)]).trans (f_62 x hx)
  refine cn_putF F (C := RX6) (T := TX6) (N := 9) (ci := 7) (fs := [.ref (a + 1), .ref ((a + 1) + 23), .ref (((a + 1) + 23) + 23), .int 0, .int 0, .ref (((a + 1) + 23) + 23 + 1), .ref (((a + 1) + 23) + 23 + 1 + 1), .ref (((a + 1) + 23) + 23 + 1 + 1 + 1), .null]) p_66_6 rfl inX6 tyX6 tyX6_ok nmX6 8 (by decide) (F.1.2.2.2.2 _ (List.mem_of_getElem? (l := wsX6_init) (i := 20) (a := .fieldLink RX6 40 "CordClock" "plans" "LCordClock$Plans;") (by decide +kernel))) rfl hnm rfl rfl rfl (Nat.le_of_ble_eq_true rfl) dX6_init_69 ?_
  refine cn_up (fun K_69 e_69 => ?_)
  have p_69_0 : cp_state K_69 cA (a + 1) := (p_66_0).fr (fun x h1 h2 => by rw [e_69, cn_u_n (by omega)])
  have p_69_1 : cp_state K_69 cA ((a + 1) + 23) := (p_66_1).fr (fun x h1 h2 => by rw [e_69, cn_u_n (by omega)])
  have p_69_2 : K_69 (((a + 1) + 23) + 23) = some (.inl (cA 5, 6, .inr (.inr (.inr (.inr (fun _ => none)))))) := by rw [e_69, cn_u_n (by omega)]; exact p_66_2
  have p_69_3 : K_69 (((a + 1) + 23) + 23 + 1) = some (.inl (cA 5, 2, .inr (.inr (.inr (.inr (fun _ => none)))))) := by rw [e_69, cn_u_n (by omega)]; exact p_66_3
  have p_69_4 : K_69 (((a + 1) + 23) + 23 + 1 + 1) = some (.inl (cA 2, 2, .inl (fun _ => 0))) := by rw [e_69, cn_u_n (by omega)]; exact p_66_4
  have p_69_5 : cp_text K_69 cA (((a + 1) + 23) + 23 + 1 + 1 + 1) := (p_66_5).fr (fun x h1 h2 => by rw [e_69, cn_u_n (by omega)])
  have p_69_7 : cp_plans K_69 cA ((((a + 1) + 23) + 23 + 1 + 1 + 1) + 3) := (h_66.1).fr (fun x h1 h2 => by rw [e_69, cn_u_n (by omega)])
  have p_69_n : K_69 a = some (.inr (7, [.ref (a + 1), .ref ((a + 1) + 23), .ref (((a + 1) + 23) + 23), .int 0, .int 0, .ref (((a + 1) + 23) + 23 + 1), .ref (((a + 1) + 23) + 23 + 1 + 1), .ref (((a + 1) + 23) + 23 + 1 + 1 + 1), .ref ((((a + 1) + 23) + 23 + 1 + 1 + 1) + 3)])) := by rw [e_69]; exact cn_u_s _ _ _
  have f_69 : ∀ x, x < a → K_69 x = K x := fun x hx => (show K_69 x = K_66 x by rw [e_69, cn_u_n (by omega)]).trans (f_66 x hx)
  refine cn_iconst F (v := 0) dX6_init_72 rfl ?_
  refine cn_istore_n F (i := 1) dX6_init_73 rfl (by decide) ?_
  refine cn_sz (sz1 := a + 65 + 23 * 0) (by omega) ?_
  refine cn_widen (k := 64 + 23 * 0) (n := 1483 + 140 * 0) (by omega) (by omega) ?_
  refine cn_loc (L2 := [(0, .ref a), (1, .int (nI 0))]) rfl ?_
  exact loop_74 8 0 K_69 (fun _ => none) (fun _ => none) (by omega) p_69_n p_69_0 p_69_1 p_69_2 p_69_3 p_69_4 p_69_5 p_69_7 (fun j hj => absurd hj (by omega)) (fun j hj => absurd hj (by omega)) f_69 (by omega)
