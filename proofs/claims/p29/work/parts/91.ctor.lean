/-! the constructors: what a new object is -/
def cp_cord (K : cn_K) (cA : Nat → ClassId) (a : Nat) : Prop := K a = some (.inr (2, [.ref (a + 1), .int 0, .int 0, .int 0, .int 0, .int 0, .int 0, .int (-1)])) ∧ K (a + 1) = some (.inl (cA 0, 6, .inl (fun _ => 0)))
def cp_book (K : cn_K) (cA : Nat → ClassId) (a : Nat) : Prop := K a = some (.inr (1, [.ref (a + 1), .ref (a + 2), .ref (a + 3), .int 0, .int 0])) ∧ K (a + 1) = some (.inl (cA 0, 8, .inl (fun _ => 0))) ∧ K (a + 2) = some (.inl (cA 0, 8, .inl (fun _ => 0))) ∧ K (a + 3) = some (.inl (cA 0, 8, .inl (fun _ => 0)))
def cp_text (K : cn_K) (cA : Nat → ClassId) (a : Nat) : Prop := K a = some (.inr (3, [.ref (a + 1), .int 0, .int 0, .int 0, .ref (a + 2), .int 0, .int 0, .int 0, .int 0, .int 0])) ∧ K (a + 1) = some (.inl (cA 1, 60, .inl (fun _ => 0))) ∧ K (a + 2) = some (.inl (cA 0, 6, .inl (fun _ => 0)))
/-- an array of references, of n places: place j holds t j -/
def cp_q (K : cn_K) (a : Nat) (c : ClassId) (n : Nat) (t : Nat → Nat) : Prop := ∃ f : Nat → Option Nat, K a = some (.inl (c, n, .inr (.inr (.inr (.inr f))))) ∧ ∀ j, j < n → f j = some (t j)
def cp_plans (K : cn_K) (cA : Nat → ClassId) (a : Nat) : Prop := K a = some (.inr (4, [.ref (a + 1), .ref (a + 2), .ref (a + 7), .int 0])) ∧ K (a + 1) = some (.inl (cA 0, 1081, .inl (fun _ => 0))) ∧ cp_q K (a + 2) (cA 6) 4 (fun j => a + 3 + j) ∧ (∀ j, j < 4 → K (a + 3 + j) = some (.inl (cA 0, 3, .inl (fun _ => 0)))) ∧ cp_q K (a + 7) (cA 6) 4 (fun j => a + 8 + j) ∧ ∀ j, j < 4 → K (a + 8 + j) = some (.inl (cA 0, 3, .inl (fun _ => 0)))
def cp_rule (K : cn_K) (a : Nat) : Prop := K a = some (.inr (5, [.int 0, .int 0, .int 0, .int 0]))
def cp_state (K : cn_K) (cA : Nat → ClassId) (a : Nat) : Prop := K a = some (.inr (6, [.ref (a + 1), .int 0, .ref (a + 2), .int 0, .ref (a + 3), .int 0, .int 0, .int 0, .int 0, .int 0, .int 0])) ∧ cp_q K (a + 1) (cA 3) 4 (fun j => a + 7 + 2 * j) ∧ cp_q K (a + 2) (cA 4) 8 (fun j => a + 15 + j) ∧ cp_book K cA (a + 3) ∧ (∀ j, j < 4 → cp_cord K cA (a + 7 + 2 * j)) ∧ ∀ j, j < 8 → cp_rule K (a + 15 + j)
theorem cp_cord.fr {K K1 : cn_K} {cA : Nat → ClassId} {a : Nat} (h : cp_cord K cA a) (hf : ∀ x, a ≤ x → x < a + 2 → K1 x = K x) : cp_cord K1 cA a := ⟨by rw [hf _ (by omega) (by omega)]; exact h.1, by rw [hf _ (by omega) (by omega)]; exact h.2⟩
theorem cp_book.fr {K K1 : cn_K} {cA : Nat → ClassId} {a : Nat} (h : cp_book K cA a) (hf : ∀ x, a ≤ x → x < a + 4 → K1 x = K x) : cp_book K1 cA a := ⟨by rw [hf _ (by omega) (by omega)]; exact h.1, by rw [hf _ (by omega) (by omega)]; exact h.2.1, by rw [hf _ (by omega) (by omega)]; exact h.2.2.1, by rw [hf _ (by omega) (by omega)]; exact h.2.2.2⟩
theorem cp_text.fr {K K1 : cn_K} {cA : Nat → ClassId} {a : Nat} (h : cp_text K cA a) (hf : ∀ x, a ≤ x → x < a + 3 → K1 x = K x) : cp_text K1 cA a := ⟨by rw [hf _ (by omega) (by omega)]; exact h.1, by rw [hf _ (by omega) (by omega)]; exact h.2.1, by rw [hf _ (by omega) (by omega)]; exact h.2.2⟩
theorem cp_q.fr {K K1 : cn_K} {a : Nat} {c : ClassId} {n : Nat} {t : Nat → Nat} (h : cp_q K a c n t) (hf : K1 a = K a) : cp_q K1 a c n t := by
  obtain ⟨f, h1, h2⟩ := h
  exact ⟨f, by rw [hf]; exact h1, h2⟩
theorem cp_plans.fr {K K1 : cn_K} {cA : Nat → ClassId} {a : Nat} (h : cp_plans K cA a) (hf : ∀ x, a ≤ x → x < a + 12 → K1 x = K x) : cp_plans K1 cA a := ⟨by rw [hf _ (by omega) (by omega)]; exact h.1, by rw [hf _ (by omega) (by omega)]; exact h.2.1, h.2.2.1.fr (hf _ (by omega) (by omega)), fun j hj => by rw [hf _ (by omega) (by omega)]; exact h.2.2.2.1 j hj, h.2.2.2.2.1.fr (hf _ (by omega) (by omega)), fun j hj => by rw [hf _ (by omega) (by omega)]; exact h.2.2.2.2.2 j hj⟩
theorem cp_state.fr {K K1 : cn_K} {cA : Nat → ClassId} {a : Nat} (h : cp_state K cA a) (hf : ∀ x, a ≤ x → x < a + 23 → K1 x = K x) : cp_state K1 cA a := ⟨by rw [hf _ (by omega) (by omega)]; exact h.1, h.2.1.fr (hf _ (by omega) (by omega)), h.2.2.1.fr (hf _ (by omega) (by omega)), h.2.2.2.1.fr (fun x h1 h2 => hf x (by omega) (by omega)), fun j hj => (h.2.2.2.2.1 j hj).fr (fun x h1 h2 => hf x (by omega) (by omega)), fun j hj => by unfold cp_rule; rw [hf _ (by omega) (by omega)]; exact h.2.2.2.2.2 j hj⟩
abbrev rmX4_init : Room := ({ frames := 1, cells := 0, slots := 0, locals := 12 })
set_option maxHeartbeats 4000000 in
set_option maxRecDepth 100000 in
theorem kX4_init (l : Launch) (D : va_G) (cA : Nat → ClassId) (Bs a : Nat) (K : cn_K) (h0 : K a = some (.inr (5, [.int 0, .int 0, .int 0, .int 0]))) : cn_C l yX4_init wsX4_init rmX4_init D cA Bs [.ref a] K (a + 1) (fun K1 => cp_rule K1 a ∧ ∀ x, x < a → K1 x = K x) (a + 1) 0 0 := by
  refine cn_met (cc := cX4_init) (maxL := 1) (ret := none) (by decide) rfl (Nat.le_of_ble_eq_true rfl) [(0, .ref a)] rfl rfl ?_
  intro p9 e9 s9 m9 b9 t9 c9 F hr hnm O
  refine cn_aload_n F (i := 0) dX4_init_0 rfl rfl ?_
  refine cn_objInit F (F.1.2.2.2.2 _ (List.mem_of_getElem? (l := wsX4_init) (i := 1) (a := .methodLink RX4 1 objectInit) (by decide +kernel))) (F.1.2.2.2.2 _ (List.mem_of_getElem? (l := wsX4_init) (i := 2) (a := .instanceMethod objectInit) (by decide +kernel))) (F.1.2.2.2.2 _ (List.mem_of_getElem? (l := wsX4_init) (i := 3) (a := .code objectInit ⟨#[0xb1]⟩ 1 none) (by decide +kernel))) dX4_init_1 ⟨Nat.le_of_ble_eq_true rfl, Nat.le_of_ble_eq_true rfl⟩ ?_
  exact cn_vret F hr (Nat.le_of_ble_eq_true rfl) (Nat.le_of_ble_eq_true rfl) dX4_init_4 ⟨h0, (fun _ _ => rfl)⟩ rfl
abbrev rmX1_init : Room := ({ frames := 1, cells := 1, slots := 6, locals := 12 })
set_option maxHeartbeats 4000000 in
set_option maxRecDepth 100000 in
theorem kX1_init (l : Launch) (D : va_G) (cA : Nat → ClassId) (Bs a : Nat) (K : cn_K) (h0 : K a = some (.inr (2, [.null, .int 0, .int 0, .int 0, .int 0, .int 0, .int 0, .int 0]))) : cn_C l yX1_init wsX1_init rmX1_init D cA Bs [.ref a] K (a + 1) (fun K1 => cp_cord K1 cA a ∧ ∀ x, x < a → K1 x = K x) (a + 2) 1 6 := by
  refine cn_met (cc := cX1_init) (maxL := 1) (ret := none) (by decide) rfl (Nat.le_of_ble_eq_true rfl) [(0, .ref a)] rfl rfl ?_
  intro p9 e9 s9 m9 b9 t9 c9 F hr hnm O
  have inX1 : ∀ w ∈ wsX10, w ∈ wsX1_init := (fun w h => List.mem_cons_of_mem _ (List.mem_append_right _ h))
  refine cn_aload_n F (i := 0) dX1_init_0 rfl rfl ?_
  refine cn_objInit F (F.1.2.2.2.2 _ (List.mem_of_getElem? (l := wsX1_init) (i := 1) (a := .methodLink RX1 3 objectInit) (by decide +kernel))) (F.1.2.2.2.2 _ (List.mem_of_getElem? (l := wsX1_init) (i := 2) (a := .instanceMethod objectInit) (by decide +kernel))) (F.1.2.2.2.2 _ (List.mem_of_getElem? (l := wsX1_init) (i := 3) (a := .code objectInit ⟨#[0xb1]⟩ 1 none) (by decide +kernel))) dX1_init_1 ⟨Nat.le_of_ble_eq_true rfl, Nat.le_of_ble_eq_true rfl⟩ ?_
  refine cn_aload_n F (i := 0) dX1_init_4 rfl rfl ?_
  refine cn_bipush F (v := 6) dX1_init_5 (by decide) ?_
  refine cn_newa F (atype := .int) (t := 0) (a0 := (6, .inl (fun _ => 0))) (N := 6) (F.1.2.2.2.2 _ (List.mem_of_getElem? (l := wsX1_init) (i := 4) (a := .arrayClass .int) (by decide +kernel))) (F.2.1.2 0 _ rfl).2 rfl (by decide) (by decide) (Nat.le_of_ble_eq_true rfl) ⟨Nat.le_of_ble_eq_true rfl, Nat.le_of_ble_eq_true rfl⟩ dX1_init_7 ?_
  refine cn_up (fun K_7 e_7 => ?_)
  have p_7_0 : K_7 a = some (.inr (2, [.null, .int 0, .int 0, .int 0, .int 0, .int 0, .int 0, .int 0])) := by rw [e_7, cn_u_n (by omega)]; exact h0
  have p_7_n : K_7 (a + 1) = some (.inl (cA 0, 6, .inl (fun _ => 0))) := by rw [e_7]; exact cn_u_s _ _ _
  have f_7 : ∀ x, x < a → K_7 x = K x := fun x hx => (show K_7 x = K x by rw [e_7, cn_u_n (by omega)]).trans ((fun _ _ => rfl) x hx)
  refine cn_putF F (C := RX1) (T := TX1) (N := 8) (ci := 2) (fs := [.null, .int 0, .int 0, .int 0, .int 0, .int 0, .int 0, .int 0]) p_7_0 rfl inX1 tyX1 tyX1_ok nmX1 0 (by decide) (F.1.2.2.2.2 _ (List.mem_of_getElem? (l := wsX1_init) (i := 5) (a := .fieldLink RX1 9 "CordClock$Cord" "times" "[I") (by decide +kernel))) rfl hnm rfl rfl rfl (Nat.le_of_ble_eq_true rfl) dX1_init_9 ?_
  refine cn_up (fun K_9 e_9 => ?_)
  have p_9_1 : K_9 (a + 1) = some (.inl (cA 0, 6, .inl (fun _ => 0))) := by rw [e_9, cn_u_n (by omega)]; exact p_7_n
  have p_9_n : K_9 a = some (.inr (2, [.ref (a + 1), .int 0, .int 0, .int 0, .int 0, .int 0, .int 0, .int 0])) := by rw [e_9]; exact cn_u_s _ _ _
  have f_9 : ∀ x, x < a → K_9 x = K x := fun x hx => (show K_9 x = K_7 x by rw [e_9, cn_u_n (by omega)]).trans (f_7 x hx)
  refine cn_aload_n F (i := 0) dX1_init_12 rfl rfl ?_
  refine cn_iconst F (v := (-1)) dX1_init_13 rfl ?_
  refine cn_put F (C := RX1) (T := TX1) (N := 8) (ci := 2) (fs := [.ref (a + 1), .int 0, .int 0, .int 0, .int 0, .int 0, .int 0, .int 0]) p_9_n rfl inX1 tyX1 tyX1_ok nmX1 7 (by decide) (F.1.2.2.2.2 _ (List.mem_of_getElem? (l := wsX1_init) (i := 6) (a := .fieldLink RX1 15 "CordClock$Cord" "lastOut" "I") (by decide +kernel))) rfl rfl rfl (Nat.le_of_ble_eq_true rfl) dX1_init_14 ?_
  refine cn_up (fun K_14 e_14 => ?_)
  have p_14_0 : K_14 (a + 1) = some (.inl (cA 0, 6, .inl (fun _ => 0))) := by rw [e_14, cn_u_n (by omega)]; exact p_9_1
  have p_14_n : K_14 a = some (.inr (2, [.ref (a + 1), .int 0, .int 0, .int 0, .int 0, .int 0, .int 0, .int (-1)])) := by rw [e_14]; exact cn_u_s _ _ _
  have f_14 : ∀ x, x < a → K_14 x = K x := fun x hx => (show K_14 x = K_9 x by rw [e_14, cn_u_n (by omega)]).trans (f_9 x hx)
  exact cn_vret F hr (Nat.le_of_ble_eq_true rfl) (Nat.le_of_ble_eq_true rfl) dX1_init_17 ⟨⟨p_14_n, p_14_0⟩, f_14⟩ rfl
abbrev rmX0_init : Room := ({ frames := 1, cells := 3, slots := 24, locals := 12 })
set_option maxHeartbeats 4000000 in
set_option maxRecDepth 100000 in
theorem kX0_init (l : Launch) (D : va_G) (cA : Nat → ClassId) (Bs a : Nat) (K : cn_K) (h0 : K a = some (.inr (1, [.null, .null, .null, .int 0, .int 0]))) : cn_C l yX0_init wsX0_init rmX0_init D cA Bs [.ref a] K (a + 1) (fun K1 => cp_book K1 cA a ∧ ∀ x, x < a → K1 x = K x) (a + 4) 3 24 := by
  refine cn_met (cc := cX0_init) (maxL := 1) (ret := none) (by decide) rfl (Nat.le_of_ble_eq_true rfl) [(0, .ref a)] rfl rfl ?_
  intro p9 e9 s9 m9 b9 t9 c9 F hr hnm O
  have inX0 : ∀ w ∈ wsX00, w ∈ wsX0_init := (fun w h => List.mem_cons_of_mem _ (List.mem_append_right _ h))
  refine cn_aload_n F (i := 0) dX0_init_0 rfl rfl ?_
  refine cn_objInit F (F.1.2.2.2.2 _ (List.mem_of_getElem? (l := wsX0_init) (i := 1) (a := .methodLink RX0 3 objectInit) (by decide +kernel))) (F.1.2.2.2.2 _ (List.mem_of_getElem? (l := wsX0_init) (i := 2) (a := .instanceMethod objectInit) (by decide +kernel))) (F.1.2.2.2.2 _ (List.mem_of_getElem? (l := wsX0_init) (i := 3) (a := .code objectInit ⟨#[0xb1]⟩ 1 none) (by decide +kernel))) dX0_init_1 ⟨Nat.le_of_ble_eq_true rfl, Nat.le_of_ble_eq_true rfl⟩ ?_
  refine cn_aload_n F (i := 0) dX0_init_4 rfl rfl ?_
  refine cn_bipush F (v := 8) dX0_init_5 (by decide) ?_
  refine cn_newa F (atype := .int) (t := 0) (a0 := (8, .inl (fun _ => 0))) (N := 8) (F.1.2.2.2.2 _ (List.mem_of_getElem? (l := wsX0_init) (i := 4) (a := .arrayClass .int) (by decide +kernel))) (F.2.1.2 0 _ rfl).2 rfl (by decide) (by decide) (Nat.le_of_ble_eq_true rfl) ⟨Nat.le_of_ble_eq_true rfl, Nat.le_of_ble_eq_true rfl⟩ dX0_init_7 ?_
  refine cn_up (fun K_7 e_7 => ?_)
  have p_7_0 : K_7 a = some (.inr (1, [.null, .null, .null, .int 0, .int 0])) := by rw [e_7, cn_u_n (by omega)]; exact h0
  have p_7_n : K_7 (a + 1) = some (.inl (cA 0, 8, .inl (fun _ => 0))) := by rw [e_7]; exact cn_u_s _ _ _
  have f_7 : ∀ x, x < a → K_7 x = K x := fun x hx => (show K_7 x = K x by rw [e_7, cn_u_n (by omega)]).trans ((fun _ _ => rfl) x hx)
  refine cn_putF F (C := RX0) (T := TX0) (N := 5) (ci := 1) (fs := [.null, .null, .null, .int 0, .int 0]) p_7_0 rfl inX0 tyX0 tyX0_ok nmX0 0 (by decide) (F.1.2.2.2.2 _ (List.mem_of_getElem? (l := wsX0_init) (i := 5) (a := .fieldLink RX0 9 "CordClock$Book" "kinds" "[I") (by decide +kernel))) rfl hnm rfl rfl rfl (Nat.le_of_ble_eq_true rfl) dX0_init_9 ?_
  refine cn_up (fun K_9 e_9 => ?_)
  have p_9_1 : K_9 (a + 1) = some (.inl (cA 0, 8, .inl (fun _ => 0))) := by rw [e_9, cn_u_n (by omega)]; exact p_7_n
  have p_9_n : K_9 a = some (.inr (1, [.ref (a + 1), .null, .null, .int 0, .int 0])) := by rw [e_9]; exact cn_u_s _ _ _
  have f_9 : ∀ x, x < a → K_9 x = K x := fun x hx => (show K_9 x = K_7 x by rw [e_9, cn_u_n (by omega)]).trans (f_7 x hx)
  refine cn_aload_n F (i := 0) dX0_init_12 rfl rfl ?_
  refine cn_bipush F (v := 8) dX0_init_13 (by decide) ?_
  refine cn_newa F (atype := .int) (t := 0) (a0 := (8, .inl (fun _ => 0))) (N := 8) (F.1.2.2.2.2 _ (List.mem_of_getElem? (l := wsX0_init) (i := 4) (a := .arrayClass .int) (by decide +kernel))) (F.2.1.2 0 _ rfl).2 rfl (by decide) (by decide) (Nat.le_of_ble_eq_true rfl) ⟨Nat.le_of_ble_eq_true rfl, Nat.le_of_ble_eq_true rfl⟩ dX0_init_15 ?_
  refine cn_up (fun K_15 e_15 => ?_)
  have p_15_0 : K_15 (a + 1) = some (.inl (cA 0, 8, .inl (fun _ => 0))) := by rw [e_15, cn_u_n (by omega)]; exact p_9_1
  have p_15_1 : K_15 a = some (.inr (1, [.ref (a + 1), .null, .null, .int 0, .int 0])) := by rw [e_15, cn_u_n (by omega)]; exact p_9_n
  have p_15_n : K_15 (a + 1 + 1) = some (.inl (cA 0, 8, .inl (fun _ => 0))) := by rw [e_15]; exact cn_u_s _ _ _
  have f_15 : ∀ x, x < a → K_15 x = K x := fun x hx => (show K_15 x = K_9 x by rw [e_15, cn_u_n (by omega)]).trans (f_9 x hx)
  refine cn_putF F (C := RX0) (T := TX0) (N := 5) (ci := 1) (fs := [.ref (a + 1), .null, .null, .int 0, .int 0]) p_15_1 rfl inX0 tyX0 tyX0_ok nmX0 1 (by decide) (F.1.2.2.2.2 _ (List.mem_of_getElem? (l := wsX0_init) (i := 6) (a := .fieldLink RX0 15 "CordClock$Book" "steps" "[I") (by decide +kernel))) rfl hnm rfl rfl rfl (Nat.le_of_ble_eq_true rfl) dX0_init_17 ?_
  refine cn_up (fun K_17 e_17 => ?_)
  have p_17_0 : K_17 (a + 1) = some (.inl (cA 0, 8, .inl (fun _ => 0))) := by rw [e_17, cn_u_n (by omega)]; exact p_15_0
  have p_17_2 : K_17 (a + 1 + 1) = some (.inl (cA 0, 8, .inl (fun _ => 0))) := by rw [e_17, cn_u_n (by omega)]; exact p_15_n
  have p_17_n : K_17 a = some (.inr (1, [.ref (a + 1), .ref (a + 1 + 1), .null, .int 0, .int 0])) := by rw [e_17]; exact cn_u_s _ _ _
  have f_17 : ∀ x, x < a → K_17 x = K x := fun x hx => (show K_17 x = K_15 x by rw [e_17, cn_u_n (by omega)]).trans (f_15 x hx)
  refine cn_aload_n F (i := 0) dX0_init_20 rfl rfl ?_
  refine cn_bipush F (v := 8) dX0_init_21 (by decide) ?_
  refine cn_newa F (atype := .int) (t := 0) (a0 := (8, .inl (fun _ => 0))) (N := 8) (F.1.2.2.2.2 _ (List.mem_of_getElem? (l := wsX0_init) (i := 4) (a := .arrayClass .int) (by decide +kernel))) (F.2.1.2 0 _ rfl).2 rfl (by decide) (by decide) (Nat.le_of_ble_eq_true rfl) ⟨Nat.le_of_ble_eq_true rfl, Nat.le_of_ble_eq_true rfl⟩ dX0_init_23 ?_
  refine cn_up (fun K_23 e_23 => ?_)
  have p_23_0 : K_23 (a + 1) = some (.inl (cA 0, 8, .inl (fun _ => 0))) := by rw [e_23, cn_u_n (by omega)]; exact p_17_0
  have p_23_1 : K_23 (a + 1 + 1) = some (.inl (cA 0, 8, .inl (fun _ => 0))) := by rw [e_23, cn_u_n (by omega)]; exact p_17_2
  have p_23_2 : K_23 a = some (.inr (1, [.ref (a + 1), .ref (a + 1 + 1), .null, .int 0, .int 0])) := by rw [e_23, cn_u_n (by omega)]; exact p_17_n
  have p_23_n : K_23 (a + 1 + 1 + 1) = some (.inl (cA 0, 8, .inl (fun _ => 0))) := by rw [e_23]; exact cn_u_s _ _ _
  have f_23 : ∀ x, x < a → K_23 x = K x := fun x hx => (show K_23 x = K_17 x by rw [e_23, cn_u_n (by omega)]).trans (f_17 x hx)
  refine cn_putF F (C := RX0) (T := TX0) (N := 5) (ci := 1) (fs := [.ref (a + 1), .ref (a + 1 + 1), .null, .int 0, .int 0]) p_23_2 rfl inX0 tyX0 tyX0_ok nmX0 2 (by decide) (F.1.2.2.2.2 _ (List.mem_of_getElem? (l := wsX0_init) (i := 7) (a := .fieldLink RX0 18 "CordClock$Book" "cords" "[I") (by decide +kernel))) rfl hnm rfl rfl rfl (Nat.le_of_ble_eq_true rfl) dX0_init_25 ?_
  refine cn_up (fun K_25 e_25 => ?_)
  have p_25_0 : K_25 (a + 1) = some (.inl (cA 0, 8, .inl (fun _ => 0))) := by rw [e_25, cn_u_n (by omega)]; exact p_23_0
  have p_25_1 : K_25 (a + 1 + 1) = some (.inl (cA 0, 8, .inl (fun _ => 0))) := by rw [e_25, cn_u_n (by omega)]; exact p_23_1
  have p_25_3 : K_25 (a + 1 + 1 + 1) = some (.inl (cA 0, 8, .inl (fun _ => 0))) := by rw [e_25, cn_u_n (by omega)]; exact p_23_n
  have p_25_n : K_25 a = some (.inr (1, [.ref (a + 1), .ref (a + 1 + 1), .ref (a + 1 + 1 + 1), .int 0, .int 0])) := by rw [e_25]; exact cn_u_s _ _ _
  have f_25 : ∀ x, x < a → K_25 x = K x := fun x hx => (show K_25 x = K_23 x by rw [e_25, cn_u_n (by omega)]).trans (f_23 x hx)
  exact cn_vret F hr (Nat.le_of_ble_eq_true rfl) (Nat.le_of_ble_eq_true rfl) dX0_init_28 ⟨⟨p_25_n, p_25_0, p_25_1, p_25_3⟩, f_25⟩ rfl
abbrev rmX2_init : Room := ({ frames := 1, cells := 2, slots := 66, locals := 12 })
set_option maxHeartbeats 4000000 in
set_option maxRecDepth 100000 in
theorem kX2_init (l : Launch) (D : va_G) (cA : Nat → ClassId) (Bs a : Nat) (K : cn_K) (h0 : K a = some (.inr (3, [.null, .int 0, .int 0, .int 0, .null, .int 0, .int 0, .int 0, .int 0, .int 0]))) : cn_C l yX2_init wsX2_init rmX2_init D cA Bs [.ref a] K (a + 1) (fun K1 => cp_text K1 cA a ∧ ∀ x, x < a → K1 x = K x) (a + 3) 2 66 := by
  refine cn_met (cc := cX2_init) (maxL := 1) (ret := none) (by decide) rfl (Nat.le_of_ble_eq_true rfl) [(0, .ref a)] rfl rfl ?_
  intro p9 e9 s9 m9 b9 t9 c9 F hr hnm O
  have inX2 : ∀ w ∈ wsX20, w ∈ wsX2_init := (fun w h => List.mem_cons_of_mem _ (List.mem_append_right _ h))
  refine cn_aload_n F (i := 0) dX2_init_0 rfl rfl ?_
  refine cn_objInit F (F.1.2.2.2.2 _ (List.mem_of_getElem? (l := wsX2_init) (i := 1) (a := .methodLink RX2 3 objectInit) (by decide +kernel))) (F.1.2.2.2.2 _ (List.mem_of_getElem? (l := wsX2_init) (i := 2) (a := .instanceMethod objectInit) (by decide +kernel))) (F.1.2.2.2.2 _ (List.mem_of_getElem? (l := wsX2_init) (i := 3) (a := .code objectInit ⟨#[0xb1]⟩ 1 none) (by decide +kernel))) dX2_init_1 ⟨Nat.le_of_ble_eq_true rfl, Nat.le_of_ble_eq_true rfl⟩ ?_
  refine cn_aload_n F (i := 0) dX2_init_4 rfl rfl ?_
  refine cn_bipush F (v := 60) dX2_init_5 (by decide) ?_
  refine cn_newa F (atype := .char) (t := 1) (a0 := (60, .inl (fun _ => 0))) (N := 60) (F.1.2.2.2.2 _ (List.mem_of_getElem? (l := wsX2_init) (i := 4) (a := .arrayClass .char) (by decide +kernel))) (F.2.1.2 1 _ rfl).2 rfl (by decide) (by decide) (Nat.le_of_ble_eq_true rfl) ⟨Nat.le_of_ble_eq_true rfl, Nat.le_of_ble_eq_true rfl⟩ dX2_init_7 ?_
  refine cn_up (fun K_7 e_7 => ?_)
  have p_7_0 : K_7 a = some (.inr (3, [.null, .int 0, .int 0, .int 0, .null, .int 0, .int 0, .int 0, .int 0, .int 0])) := by rw [e_7, cn_u_n (by omega)]; exact h0
  have p_7_n : K_7 (a + 1) = some (.inl (cA 1, 60, .inl (fun _ => 0))) := by rw [e_7]; exact cn_u_s _ _ _
  have f_7 : ∀ x, x < a → K_7 x = K x := fun x hx => (show K_7 x = K x by rw [e_7, cn_u_n (by omega)]).trans ((fun _ _ => rfl) x hx)
  refine cn_putF F (C := RX2) (T := TX2) (N := 10) (ci := 3) (fs := [.null, .int 0, .int 0, .int 0, .null, .int 0, .int 0, .int 0, .int 0, .int 0]) p_7_0 rfl inX2 tyX2 tyX2_ok nmX2 0 (by decide) (F.1.2.2.2.2 _ (List.mem_of_getElem? (l := wsX2_init) (i := 5) (a := .fieldLink RX2 9 "CordClock$OrderText" "signs" "[C") (by decide +kernel))) rfl hnm rfl rfl rfl (Nat.le_of_ble_eq_true rfl) dX2_init_9 ?_
  refine cn_up (fun K_9 e_9 => ?_)
  have p_9_1 : K_9 (a + 1) = some (.inl (cA 1, 60, .inl (fun _ => 0))) := by rw [e_9, cn_u_n (by omega)]; exact p_7_n
  have p_9_n : K_9 a = some (.inr (3, [.ref (a + 1), .int 0, .int 0, .int 0, .null, .int 0, .int 0, .int 0, .int 0, .int 0])) := by rw [e_9]; exact cn_u_s _ _ _
  have f_9 : ∀ x, x < a → K_9 x = K x := fun x hx => (show K_9 x = K_7 x by rw [e_9, cn_u_n (by omega)]).trans (f_7 x hx)
  refine cn_aload_n F (i := 0) dX2_init_12 rfl rfl ?_
  refine cn_bipush F (v := 6) dX2_init_13 (by decide) ?_
  refine cn_newa F (atype := .int) (t := 0) (a0 := (6, .inl (fun _ => 0))) (N := 6) (F.1.2.2.2.2 _ (List.mem_of_getElem? (l := wsX2_init) (i := 6) (a := .arrayClass .int) (by decide +kernel))) (F.2.1.2 0 _ rfl).2 rfl (by decide) (by decide) (Nat.le_of_ble_eq_true rfl) ⟨Nat.le_of_ble_eq_true rfl, Nat.le_of_ble_eq_true rfl⟩ dX2_init_15 ?_
  refine cn_up (fun K_15 e_15 => ?_)
  have p_15_0 : K_15 (a + 1) = some (.inl (cA 1, 60, .inl (fun _ => 0))) := by rw [e_15, cn_u_n (by omega)]; exact p_9_1
  have p_15_1 : K_15 a = some (.inr (3, [.ref (a + 1), .int 0, .int 0, .int 0, .null, .int 0, .int 0, .int 0, .int 0, .int 0])) := by rw [e_15, cn_u_n (by omega)]; exact p_9_n
  have p_15_n : K_15 (a + 1 + 1) = some (.inl (cA 0, 6, .inl (fun _ => 0))) := by rw [e_15]; exact cn_u_s _ _ _
  have f_15 : ∀ x, x < a → K_15 x = K x := fun x hx => (show K_15 x = K_9 x by rw [e_15, cn_u_n (by omega)]).trans (f_9 x hx)
  refine cn_putF F (C := RX2) (T := TX2) (N := 10) (ci := 3) (fs := [.ref (a + 1), .int 0, .int 0, .int 0, .null, .int 0, .int 0, .int 0, .int 0, .int 0]) p_15_1 rfl inX2 tyX2 tyX2_ok nmX2 4 (by decide) (F.1.2.2.2.2 _ (List.mem_of_getElem? (l := wsX2_init) (i := 7) (a := .fieldLink RX2 15 "CordClock$OrderText" "times" "[I") (by decide +kernel))) rfl hnm rfl rfl rfl (Nat.le_of_ble_eq_true rfl) dX2_init_17 ?_
  refine cn_up (fun K_17 e_17 => ?_)
  have p_17_0 : K_17 (a + 1) = some (.inl (cA 1, 60, .inl (fun _ => 0))) := by rw [e_17, cn_u_n (by omega)]; exact p_15_0
  have p_17_2 : K_17 (a + 1 + 1) = some (.inl (cA 0, 6, .inl (fun _ => 0))) := by rw [e_17, cn_u_n (by omega)]; exact p_15_n
  have p_17_n : K_17 a = some (.inr (3, [.ref (a + 1), .int 0, .int 0, .int 0, .ref (a + 1 + 1), .int 0, .int 0, .int 0, .int 0, .int 0])) := by rw [e_17]; exact cn_u_s _ _ _
  have f_17 : ∀ x, x < a → K_17 x = K x := fun x hx => (show K_17 x = K_15 x by rw [e_17, cn_u_n (by omega)]).trans (f_15 x hx)
  exact cn_vret F hr (Nat.le_of_ble_eq_true rfl) (Nat.le_of_ble_eq_true rfl) dX2_init_20 ⟨⟨p_17_n, p_17_0, p_17_2⟩, f_17⟩ rfl
theorem cn_ii : ("[" ++ (FieldType.array .int).toString) = "[[I" := by decide +kernel
abbrev rmX3_init : Room := ({ frames := 1, cells := 11, slots := 1113, locals := 12 })
set_option maxHeartbeats 4000000 in
set_option maxRecDepth 100000 in
theorem kX3_init (l : Launch) (D : va_G) (cA : Nat → ClassId) (Bs a : Nat) (K : cn_K) (h0 : K a = some (.inr (4, [.null, .null, .null, .int 0]))) : cn_C l yX3_init wsX3_init rmX3_init D cA Bs [.ref a] K (a + 1) (fun K1 => cp_plans K1 cA a ∧ ∀ x, x < a → K1 x = K x) (a + 12) 11 1113 := by
  refine cn_met (cc := cX3_init) (maxL := 1) (ret := none) (by decide) rfl (Nat.le_of_ble_eq_true rfl) [(0, .ref a)] rfl rfl ?_
  intro p9 e9 s9 m9 b9 t9 c9 F hr hnm O
  have inX3 : ∀ w ∈ wsX30, w ∈ wsX3_init := (fun w h => List.mem_cons_of_mem _ (List.mem_append_right _ h))
  refine cn_aload_n F (i := 0) dX3_init_0 rfl rfl ?_
  refine cn_objInit F (F.1.2.2.2.2 _ (List.mem_of_getElem? (l := wsX3_init) (i := 1) (a := .methodLink RX3 3 objectInit) (by decide +kernel))) (F.1.2.2.2.2 _ (List.mem_of_getElem? (l := wsX3_init) (i := 2) (a := .instanceMethod objectInit) (by decide +kernel))) (F.1.2.2.2.2 _ (List.mem_of_getElem? (l := wsX3_init) (i := 3) (a := .code objectInit ⟨#[0xb1]⟩ 1 none) (by decide +kernel))) dX3_init_1 ⟨Nat.le_of_ble_eq_true rfl, Nat.le_of_ble_eq_true rfl⟩ ?_
  refine cn_aload_n F (i := 0) dX3_init_4 rfl rfl ?_
  refine cn_sipush F (v := 1081) dX3_init_5 (by decide) ?_
  refine cn_newa F (atype := .int) (t := 0) (a0 := (1081, .inl (fun _ => 0))) (N := 1081) (F.1.2.2.2.2 _ (List.mem_of_getElem? (l := wsX3_init) (i := 4) (a := .arrayClass .int) (by decide +kernel))) (F.2.1.2 0 _ rfl).2 rfl (by decide) (by decide) (Nat.le_of_ble_eq_true rfl) ⟨Nat.le_of_ble_eq_true rfl, Nat.le_of_ble_eq_true rfl⟩ dX3_init_8 ?_
  refine cn_up (fun K_8 e_8 => ?_)
  have p_8_0 : K_8 a = some (.inr (4, [.null, .null, .null, .int 0])) := by rw [e_8, cn_u_n (by omega)]; exact h0
  refine cn_putF F (C := RX3) (T := TX3) (N := 4) (ci := 4) (fs := [.null, .null, .null, .int 0]) p_8_0 rfl inX3 tyX3 tyX3_ok nmX3 0 (by decide) (F.1.2.2.2.2 _ (List.mem_of_getElem? (l := wsX3_init) (i := 5) (a := .fieldLink RX3 9 "CordClock$Plans" "fewest" "[I") (by decide +kernel))) rfl hnm rfl rfl rfl (Nat.le_of_ble_eq_true rfl) dX3_init_10 ?_
  refine cn_up (fun K_10 e_10 => ?_)
  have hcl : (Cond.classLink RX3 15 ("[" ++ (FieldType.array .int).toString)).before ([.ref a] : List Value).toArray s9 = true := by
    rw [cn_ii]
    exact (F.1.2.2.2.2 _ (List.mem_of_getElem? (l := wsX3_init) (i := 6) (a := .classLink RX3 15 "[[I") (by decide +kernel)))
  refine cn_aload_n F (i := 0) dX3_init_13 rfl rfl ?_
  refine cn_iconst F (v := 4) dX3_init_14 rfl ?_
  refine cn_iconst F (v := 3) dX3_init_15 rfl ?_
  refine cn_mna F O (n := 4) (k := 3) (N' := 4) (K' := 3) hcl (F.1.2.2.2.2 _ (List.mem_of_getElem? (l := wsX3_init) (i := 4) (a := .arrayClass .int) (by decide +kernel))) (by decide) (by decide) (by decide) (by decide) (by decide) (by decide) ⟨Nat.le_of_ble_eq_true rfl, Nat.le_of_ble_eq_true rfl⟩ dX3_init_16 ?_
  refine cn_nm (fun K_16 e_16 => ?_)
  have p_16 : K_16 a = some (.inr (4, [.ref (a + 1), .null, .null, .int 0])) := by rw [e_16, cn_rows_n (by omega), e_10]; exact cn_u_s _ _ _
  refine cn_putF F (C := RX3) (T := TX3) (N := 4) (ci := 4) (fs := [.ref (a + 1), .null, .null, .int 0]) p_16 rfl inX3 tyX3 tyX3_ok nmX3 1 (by decide) (F.1.2.2.2.2 _ (List.mem_of_getElem? (l := wsX3_init) (i := 7) (a := .fieldLink RX3 17 "CordClock$Plans" "timeLeft" "[[I") (by decide +kernel))) rfl hnm rfl rfl rfl (Nat.le_of_ble_eq_true rfl) dX3_init_20 ?_
  refine cn_up (fun K_20 e_20 => ?_)
  refine cn_aload_n F (i := 0) dX3_init_23 rfl rfl ?_
  refine cn_iconst F (v := 4) dX3_init_24 rfl ?_
  refine cn_iconst F (v := 3) dX3_init_25 rfl ?_
  refine cn_mna F O (n := 4) (k := 3) (N' := 4) (K' := 3) hcl (F.1.2.2.2.2 _ (List.mem_of_getElem? (l := wsX3_init) (i := 4) (a := .arrayClass .int) (by decide +kernel))) (by decide) (by decide) (by decide) (by decide) (by decide) (by decide) ⟨Nat.le_of_ble_eq_true rfl, Nat.le_of_ble_eq_true rfl⟩ dX3_init_26 ?_
  refine cn_nm (fun K_26 e_26 => ?_)
  have p_26 : K_26 a = some (.inr (4, [.ref (a + 1), .ref (a + 2), .null, .int 0])) := by rw [e_26, cn_rows_n (by omega), e_20]; exact cn_u_s _ _ _
  refine cn_putF F (C := RX3) (T := TX3) (N := 4) (ci := 4) (fs := [.ref (a + 1), .ref (a + 2), .null, .int 0]) p_26 rfl inX3 tyX3 tyX3_ok nmX3 2 (by decide) (F.1.2.2.2.2 _ (List.mem_of_getElem? (l := wsX3_init) (i := 8) (a := .fieldLink RX3 20 "CordClock$Plans" "flames" "[[I") (by decide +kernel))) rfl hnm rfl rfl rfl (Nat.le_of_ble_eq_true rfl) dX3_init_30 ?_
  refine cn_up (fun K_30 e_30 => ?_)
  have q1 : ∀ x, x ≠ a → K_30 x = K_26 x := fun x hx => by rw [e_30, cn_u_n hx]
  have q2 : ∀ x, x ≠ a → x < a + 7 → K_30 x = K_16 x := fun x hx h7 => by rw [q1 x hx, e_26, cn_rows_n (by omega), e_20, cn_u_n hx]
  have q3 : ∀ x, x ≠ a → x < a + 2 → K_30 x = K_8 x := fun x hx h2 => by rw [q2 x hx (by omega), e_16, cn_rows_n (by omega), e_10, cn_u_n hx]
  refine cn_vret F hr (Nat.le_of_ble_eq_true rfl) (Nat.le_of_ble_eq_true rfl) dX3_init_33 ⟨⟨?_, ?_, ⟨(fun i => if i < 4 then some ((a + 2) + 1 + i) else none), ?_, fun j hj => ?_⟩, fun j hj => ?_, ⟨(fun i => if i < 4 then some ((a + 7) + 1 + i) else none), ?_, fun j hj => ?_⟩, fun j hj => ?_⟩, fun x hx => ?_⟩ rfl
  · rw [e_30]
    exact cn_u_s _ _ _
  · rw [q3 (a + 1) (by omega) (by omega), e_8]
    exact cn_u_s _ _ _
  · rw [q2 (a + 2) (by omega) (by omega), e_16]
    exact cn_rows_0 _ _ _ _ _
  · show (if j < 4 then some (a + 2 + 1 + j) else none) = some (a + 3 + j)
    rw [if_pos hj]
  · rw [q2 (a + 3 + j) (by omega) (by omega), e_16]
    exact cn_rows_r (by omega) (by omega)
  · rw [q1 (a + 7) (by omega), e_26]
    exact cn_rows_0 _ _ _ _ _
  · show (if j < 4 then some (a + 7 + 1 + j) else none) = some (a + 8 + j)
    rw [if_pos hj]
  · rw [q1 (a + 8 + j) (by omega), e_26]
    exact cn_rows_r (by omega) (by omega)
  · rw [q3 x (by omega) (by omega), e_8, cn_u_n (by omega)]
abbrev rmX5_init : Room := ({ frames := 2, cells := 22, slots := 129, locals := 32 })
set_option maxHeartbeats 4000000 in
set_option maxRecDepth 100000 in
theorem kX5_init (l : Launch) (D : va_G) (cA : Nat → ClassId) (Bs a : Nat) (K : cn_K) (h0 : K a = some (.inr (6, [.null, .int 0, .null, .int 0, .null, .int 0, .int 0, .int 0, .int 0, .int 0, .int 0]))) : cn_C l yX5_init wsX5_init rmX5_init D cA Bs [.ref a] K (a + 1) (fun K1 => cp_state K1 cA a ∧ ∀ x, x < a → K1 x = K x) (a + 23) 22 129 := by
  refine cn_met (cc := cX5_init) (maxL := 2) (ret := none) (by decide) rfl (Nat.le_of_ble_eq_true rfl) [(0, .ref a)] rfl rfl ?_
  intro p9 e9 s9 m9 b9 t9 c9 F hr hnm O
  have inX0 : ∀ w ∈ wsX00, w ∈ wsX5_init := (fun w h => List.mem_cons_of_mem _ (List.mem_append_left _ (List.mem_append_left _ (List.mem_append_right _ h))))
  have inX1 : ∀ w ∈ wsX10, w ∈ wsX5_init := (fun w h => List.mem_cons_of_mem _ (List.mem_append_left _ (List.mem_append_right _ h)))
  have inX4 : ∀ w ∈ wsX40, w ∈ wsX5_init := (fun w h => List.mem_cons_of_mem _ (List.mem_append_right _ h))
  have inX5 : ∀ w ∈ wsX50, w ∈ wsX5_init := (fun w h => List.mem_cons_of_mem _ (List.mem_append_left _ (List.mem_append_left _ (List.mem_append_left _ (List.mem_append_right _ h)))))
  have loop_60 : ∀ (n_60 : Nat) (i : Nat) (K2 : cn_K) (f f2 : Nat → Option Nat), i ≤ 8 → K2 a = some (.inr (6, [.ref (a + 1), .int 0, .ref (a + 2), .int 0, .ref (a + 3), .int 0, .int 0, .int 0, .int 0, .int 0, .int 0])) → K2 (a + 1) = some (.inl (cA 3, 4, .inr (.inr (.inr (.inr f))))) → (∀ j, j < 4 → f j = some (a + 7 + 2 * j)) → K2 (a + 2) = some (.inl (cA 4, 8, .inr (.inr (.inr (.inr f2))))) → (∀ j, j < i → f2 j = some (a + 15 + j)) → cp_book K2 cA (a + 3) → (∀ j, j < 4 → cp_cord K2 cA (a + 7 + 2 * j)) → (∀ j, j < i → cp_rule K2 (a + 15 + j)) → (∀ x, x < a → K2 x = K x) → 9 - i < n_60 → cn_V p9 l e9 rmX5_init s9 m9 ([.ref a] : List Value).toArray b9 t9 c9 D Bs 2 (14 + 1 * i) (97 + 4 * i) (MQ b9 (cn_Q D Bs (fun K1 => cp_state K1 cA a ∧ ∀ x, x < a → K1 x = K x) (a + 23)) ([.ref a] : List Value).toArray s9 22 129 (cq_A Bs)) 60 [(0, .ref a), (1, .int (nI i))] [] K2 (a + 15 + i) := by
    intro n_60
    induction n_60 with
    | zero =>
      intros
      omega
    | succ n_60 ih_60 =>
      intro i K2 f f2 hi po pf hf pf2 hf2 pb pc2 pr ff hn
      refine cn_iload_n F (i := 1) dX5_init_60 rfl rfl ?_
      refine cn_bipush F (v := 8) dX5_init_61 (by decide) ?_
      refine cn_icmp_ge F (tgt := 85) dX5_init_63 (by decide) (fun c_63 => ?_) (fun c_63 => ?_)
      · have c_63 : 8 ≤ i := (nI_b (a := 8) (b := i) (by omega) (by omega)).1.mp c_63
        obtain rfl : i = 8 := by omega
        exact cn_vret F hr (by omega) (by omega) dX5_init_85 ⟨⟨po, ⟨f, pf, hf⟩, ⟨f2, pf2, hf2⟩, pb, pc2, pr⟩, ff⟩ (by omega)
      · have c_63 : ¬ 8 ≤ i := fun z => c_63 ((nI_b (a := 8) (b := i) (by omega) (by omega)).1.mpr z)
        refine cn_aload_n F (i := 0) dX5_init_66 rfl rfl ?_
        refine cn_get F (C := RX5) (T := TX5) (N := 11) (ci := 6) po rfl inX5 2 (by decide) (F.1.2.2.2.2 _ (List.mem_of_getElem? (l := wsX5_init) (i := 7) (a := .fieldLink RX5 19 "CordClock$State" "rules" "[LCordClock$Rule;") (by decide +kernel))) rfl dX5_init_67 ?_
        refine cn_iload_n F (i := 1) dX5_init_70 rfl rfl ?_
        refine cn_new F (C := RX4) (T := TX4) (N := 4) (ci := 5) (fs := [.int 0, .int 0, .int 0, .int 0]) rfl inX4 tyX4 tyX4_ok (F.1.2.2.2.2 _ (List.mem_of_getElem? (l := wsX5_init) (i := 6) (a := .classLink RX5 17 RX4) (by decide +kernel))) (F.1.2.2.2.2 _ (List.mem_of_getElem? (l := wsX5_init) (i := 14) (a := .instantiable RX4 4) (by decide +kernel))) (F.1.2.2.2.2 _ (List.mem_of_getElem? (l := wsX5_init) (i := 15) (a := .initialized RX4) (by decide +kernel))) (fun j hj => by rcases (show j = 0 ∨ j = 1 ∨ j = 2 ∨ j = 3 by omega) with rfl | rfl | rfl | rfl <;> rfl) ⟨by show _ ≤ 22; omega, by show _ ≤ 129; omega⟩ dX5_init_71 ?_
        refine cn_up (fun K_71 e_71 => ?_)
        have p_71_0 : K_71 a = some (.inr (6, [.ref (a + 1), .int 0, .ref (a + 2), .int 0, .ref (a + 3), .int 0, .int 0, .int 0, .int 0, .int 0, .int 0])) := by rw [e_71, cn_u_n (by omega)]; exact po
        have p_71_1 : K_71 (a + 1) = some (.inl (cA 3, 4, .inr (.inr (.inr (.inr f))))) := by rw [e_71, cn_u_n (by omega)]; exact pf
        have p_71_2 : K_71 (a + 2) = some (.inl (cA 4, 8, .inr (.inr (.inr (.inr f2))))) := by rw [e_71, cn_u_n (by omega)]; exact pf2
        have p_71_3 : cp_book K_71 cA (a + 3) := (pb).fr (fun x h1 h2 => by rw [e_71, cn_u_n (by omega)])
        have p_71_4 : ∀ j, j < 4 → cp_cord K_71 cA (a + 7 + 2 * j) := fun j hj => (pc2 j hj).fr (fun x h1 h2 => by rw [e_71, cn_u_n (by omega)])
        have p_71_5 : ∀ j, j < i → cp_rule K_71 (a + 15 + j) := fun j hj => by unfold cp_rule; rw [e_71, cn_u_n (by omega)]; exact pr j hj
        have p_71_n : K_71 (a + 15 + i) = some (.inr (5, [.int 0, .int 0, .int 0, .int 0])) := by rw [e_71]; exact cn_u_s _ _ _
        have f_71 : ∀ x, x < a → K_71 x = K x := fun x hx => (show K_71 x = K2 x by rw [e_71, cn_u_n (by omega)]).trans (ff x hx)
        refine cn_dup F dX5_init_74 rfl ?_
        refine cn_callIN F O (kX4_init l D cA Bs (a + 15 + i) K_71 p_71_n) ⟨va_cnB 0 F.1.2.2.2.2 ggX5_init_X4_init rfl rfl rfl (F.2.2.2.2.2.1 _ (List.mem_of_getElem? (l := cq_nm) (i := 5) rfl)) (F.1.2.2.2.2 _ (List.mem_of_getElem? (l := wsX5_init) (i := 15) (a := .initialized RX4) (by decide +kernel))) (by decide +kernel) ⟨Nat.le_of_ble_eq_true rfl, Nat.le_of_ble_eq_true rfl⟩, rfl, (F.1.2.2.2.2 _ (List.mem_of_getElem? (l := wsX5_init) (i := 28) (a := .instanceMethod yX4_init) (by decide +kernel)))⟩ rfl (Nat.le_of_ble_eq_true rfl) dX5_init_75 ⟨by show _ ≤ 22; omega, by show _ ≤ 129; omega⟩ (fun K_75 h_75 => ?_)
        have p_75_0 : K_75 a = some (.inr (6, [.ref (a + 1), .int 0, .ref (a + 2), .int 0, .ref (a + 3), .int 0, .int 0, .int 0, .int 0, .int 0, .int 0])) := by rw [h_75.2 _ (by omega)]; exact p_71_0
        have p_75_1 : K_75 (a + 1) = some (.inl (cA 3, 4, .inr (.inr (.inr (.inr f))))) := by rw [h_75.2 _ (by omega)]; exact p_71_1
        have p_75_2 : K_75 (a + 2) = some (.inl (cA 4, 8, .inr (.inr (.inr (.inr f2))))) := by rw [h_75.2 _ (by omega)]; exact p_71_2
        have p_75_3 : cp_book K_75 cA (a + 3) := (p_71_3).fr (fun x h1 h2 => by rw [h_75.2 _ (by omega)])
        have p_75_4 : ∀ j, j < 4 → cp_cord K_75 cA (a + 7 + 2 * j) := fun j hj => (p_71_4 j hj).fr (fun x h1 h2 => by rw [h_75.2 _ (by omega)])
        have p_75_5 : ∀ j, j < i → cp_rule K_75 (a + 15 + j) := fun j hj => by unfold cp_rule; rw [h_75.2 _ (by omega)]; exact p_71_5 j hj
        have f_75 : ∀ x, x < a → K_75 x = K x := fun x hx => (show K_75 x = K_71 x by rw [h_75.2 _ (by omega)]).trans (f_71 x hx)
        refine cn_aast F (t := 4) (ci := 5) (j := i) p_75_2 h_75.1 rfl (F.2.1.2 4 _ rfl).2 rfl ⟨by omega, by decide⟩ dX5_init_78 ?_
        refine cn_up (fun K_78 e_78 => ?_)
        have p_78_0 : K_78 a = some (.inr (6, [.ref (a + 1), .int 0, .ref (a + 2), .int 0, .ref (a + 3), .int 0, .int 0, .int 0, .int 0, .int 0, .int 0])) := by rw [e_78, cn_u_n (by omega)]; exact p_75_0
        have p_78_1 : K_78 (a + 1) = some (.inl (cA 3, 4, .inr (.inr (.inr (.inr f))))) := by rw [e_78, cn_u_n (by omega)]; exact p_75_1
        have p_78_3 : cp_book K_78 cA (a + 3) := (p_75_3).fr (fun x h1 h2 => by rw [e_78, cn_u_n (by omega)])
        have p_78_4 : ∀ j, j < 4 → cp_cord K_78 cA (a + 7 + 2 * j) := fun j hj => (p_75_4 j hj).fr (fun x h1 h2 => by rw [e_78, cn_u_n (by omega)])
        have p_78_5 : ∀ j, j < i → cp_rule K_78 (a + 15 + j) := fun j hj => by unfold cp_rule; rw [e_78, cn_u_n (by omega)]; exact p_75_5 j hj
        have p_78_6 : K_78 (a + 15 + i) = some (.inr (5, [.int 0, .int 0, .int 0, .int 0])) := by rw [e_78, cn_u_n (by omega)]; exact h_75.1
        have p_78_n : K_78 (a + 2) = some (.inl (cA 4, 8, .inr (.inr (.inr (.inr (va_up f2 i (some (a + 15 + i)))))))) := by rw [e_78]; exact cn_u_s _ _ _
        have f_78 : ∀ x, x < a → K_78 x = K x := fun x hx => (show K_78 x = K_75 x by rw [e_78, cn_u_n (by omega)]).trans (f_75 x hx)
        refine cn_iinc F dX5_init_79 rfl (by decide) (fun x_79 e9_79 => ?_)
        obtain rfl : x_79 = nI (i + 1) := by rw [e9_79]; exact nI_1 _
        refine cn_goto F (tgt := 60) dX5_init_82 (by decide) ?_
        refine cn_sz (sz1 := a + 15 + (i + 1)) (by omega) ?_
        refine cn_widen (k := 14 + 1 * (i + 1)) (n := 97 + 4 * (i + 1)) (by omega) (by omega) ?_
        refine cn_loc (L2 := [(0, .ref a), (1, .int (nI (i + 1)))]) rfl ?_
        exact ih_60 (i + 1) K_78 f _ (by omega) p_78_0 p_78_1 hf p_78_n (fun j hj => by
            unfold va_up
            by_cases e : j = i
            · rw [if_pos e, e]
            · rw [if_neg e]; exact hf2 j (by omega)) p_78_3 p_78_4 (fun j hj => by
            by_cases e : j = i
            · rw [e]; exact p_78_6
            · exact p_78_5 j (by omega)) f_78 (by omega)
  have loop_34 : ∀ (n_34 : Nat) (i : Nat) (K2 : cn_K) (f : Nat → Option Nat), i ≤ 4 → K2 a = some (.inr (6, [.ref (a + 1), .int 0, .ref (a + 2), .int 0, .ref (a + 3), .int 0, .int 0, .int 0, .int 0, .int 0, .int 0])) → K2 (a + 1) = some (.inl (cA 3, 4, .inr (.inr (.inr (.inr f))))) → (∀ j, j < i → f j = some (a + 7 + 2 * j)) → K2 (a + 2) = some (.inl (cA 4, 8, .inr (.inr (.inr (.inr (fun _ => none)))))) → cp_book K2 cA (a + 3) → (∀ j, j < i → cp_cord K2 cA (a + 7 + 2 * j)) → (∀ x, x < a → K2 x = K x) → 5 - i < n_34 → cn_V p9 l e9 rmX5_init s9 m9 ([.ref a] : List Value).toArray b9 t9 c9 D Bs 2 (6 + 2 * i) (41 + 14 * i) (MQ b9 (cn_Q D Bs (fun K1 => cp_state K1 cA a ∧ ∀ x, x < a → K1 x = K x) (a + 23)) ([.ref a] : List Value).toArray s9 22 129 (cq_A Bs)) 34 [(0, .ref a), (1, .int (nI i))] [] K2 (a + 7 + 2 * i) := by
    intro n_34
    induction n_34 with
    | zero =>
      intros
      omega
    | succ n_34 ih_34 =>
      intro i K2 f hi po pf hf pf2 pb pc2 ff hn
      refine cn_iload_n F (i := 1) dX5_init_34 rfl rfl ?_
      refine cn_iconst F (v := 4) dX5_init_35 rfl ?_
      refine cn_icmp_ge F (tgt := 58) dX5_init_36 (by decide) (fun c_36 => ?_) (fun c_36 => ?_)
      · have c_36 : 4 ≤ i := (nI_b (a := 4) (b := i) (by omega) (by omega)).1.mp c_36
        obtain rfl : i = 4 := by omega
        refine cn_iconst F (v := 0) dX5_init_58 rfl ?_
        refine cn_istore_n F (i := 1) dX5_init_59 rfl (by decide) ?_
        refine cn_sz (sz1 := a + 15 + 0) (by omega) ?_
        refine cn_widen (k := 14 + 1 * 0) (n := 97 + 4 * 0) (by omega) (by omega) ?_
        refine cn_loc (L2 := [(0, .ref a), (1, .int (nI 0))]) rfl ?_
        exact loop_60 10 0 K2 f (fun _ => none) (by omega) po pf hf pf2 (fun j hj => absurd hj (by omega)) pb pc2 (fun j hj => absurd hj (by omega)) ff (by omega)
      · have c_36 : ¬ 4 ≤ i := fun z => c_36 ((nI_b (a := 4) (b := i) (by omega) (by omega)).1.mpr z)
        refine cn_aload_n F (i := 0) dX5_init_39 rfl rfl ?_
        refine cn_get F (C := RX5) (T := TX5) (N := 11) (ci := 6) po rfl inX5 0 (by decide) (F.1.2.2.2.2 _ (List.mem_of_getElem? (l := wsX5_init) (i := 5) (a := .fieldLink RX5 11 "CordClock$State" "cords" "[LCordClock$Cord;") (by decide +kernel))) rfl dX5_init_40 ?_
        refine cn_iload_n F (i := 1) dX5_init_43 rfl rfl ?_
        refine cn_new F (C := RX1) (T := TX1) (N := 8) (ci := 2) (fs := [.null, .int 0, .int 0, .int 0, .int 0, .int 0, .int 0, .int 0]) rfl inX1 tyX1 tyX1_ok (F.1.2.2.2.2 _ (List.mem_of_getElem? (l := wsX5_init) (i := 4) (a := .classLink RX5 9 RX1) (by decide +kernel))) (F.1.2.2.2.2 _ (List.mem_of_getElem? (l := wsX5_init) (i := 12) (a := .instantiable RX1 8) (by decide +kernel))) (F.1.2.2.2.2 _ (List.mem_of_getElem? (l := wsX5_init) (i := 13) (a := .initialized RX1) (by decide +kernel))) (fun j hj => by rcases (show j = 0 ∨ j = 1 ∨ j = 2 ∨ j = 3 ∨ j = 4 ∨ j = 5 ∨ j = 6 ∨ j = 7 by omega) with rfl | rfl | rfl | rfl | rfl | rfl | rfl | rfl <;> rfl) ⟨by show _ ≤ 22; omega, by show _ ≤ 129; omega⟩ dX5_init_44 ?_
        refine cn_up (fun K_44 e_44 => ?_)
        have p_44_0 : K_44 a = some (.inr (6, [.ref (a + 1), .int 0, .ref (a + 2), .int 0, .ref (a + 3), .int 0, .int 0, .int 0, .int 0, .int 0, .int 0])) := by rw [e_44, cn_u_n (by omega)]; exact po
        have p_44_1 : K_44 (a + 1) = some (.inl (cA 3, 4, .inr (.inr (.inr (.inr f))))) := by rw [e_44, cn_u_n (by omega)]; exact pf
        have p_44_2 : K_44 (a + 2) = some (.inl (cA 4, 8, .inr (.inr (.inr (.inr (fun _ => none)))))) := by rw [e_44, cn_u_n (by omega)]; exact pf2
        have p_44_3 : cp_book K_44 cA (a + 3) := (pb).fr (fun x h1 h2 => by rw [e_44, cn_u_n (by omega)])
        have p_44_4 : ∀ j, j < i → cp_cord K_44 cA (a + 7 + 2 * j) := fun j hj => (pc2 j hj).fr (fun x h1 h2 => by rw [e_44, cn_u_n (by omega)])
        have p_44_n : K_44 (a + 7 + 2 * i) = some (.inr (2, [.null, .int 0, .int 0, .int 0, .int 0, .int 0, .int 0, .int 0])) := by rw [e_44]; exact cn_u_s _ _ _
        have f_44 : ∀ x, x < a → K_44 x = K x := fun x hx => (show K_44 x = K2 x by rw [e_44, cn_u_n (by omega)]).trans (ff x hx)
        refine cn_dup F dX5_init_47 rfl ?_
        refine cn_callIN F O (kX1_init l D cA Bs (a + 7 + 2 * i) K_44 p_44_n) ⟨va_cnB 0 F.1.2.2.2.2 ggX5_init_X1_init rfl rfl rfl (F.2.2.2.2.2.1 _ (List.mem_of_getElem? (l := cq_nm) (i := 4) rfl)) (F.1.2.2.2.2 _ (List.mem_of_getElem? (l := wsX5_init) (i := 13) (a := .initialized RX1) (by decide +kernel))) (by decide +kernel) ⟨Nat.le_of_ble_eq_true rfl, Nat.le_of_ble_eq_true rfl⟩, rfl, (F.1.2.2.2.2 _ (List.mem_of_getElem? (l := wsX5_init) (i := 23) (a := .instanceMethod yX1_init) (by decide +kernel)))⟩ rfl (Nat.le_of_ble_eq_true rfl) dX5_init_48 ⟨by show _ ≤ 22; omega, by show _ ≤ 129; omega⟩ (fun K_48 h_48 => ?_)
        have p_48_0 : K_48 a = some (.inr (6, [.ref (a + 1), .int 0, .ref (a + 2), .int 0, .ref (a + 3), .int 0, .int 0, .int 0, .int 0, .int 0, .int 0])) := by rw [h_48.2 _ (by omega)]; exact p_44_0
        have p_48_1 : K_48 (a + 1) = some (.inl (cA 3, 4, .inr (.inr (.inr (.inr f))))) := by rw [h_48.2 _ (by omega)]; exact p_44_1
        have p_48_2 : K_48 (a + 2) = some (.inl (cA 4, 8, .inr (.inr (.inr (.inr (fun _ => none)))))) := by rw [h_48.2 _ (by omega)]; exact p_44_2
        have p_48_3 : cp_book K_48 cA (a + 3) := (p_44_3).fr (fun x h1 h2 => by rw [h_48.2 _ (by omega)])
        have p_48_4 : ∀ j, j < i → cp_cord K_48 cA (a + 7 + 2 * j) := fun j hj => (p_44_4 j hj).fr (fun x h1 h2 => by rw [h_48.2 _ (by omega)])
        have f_48 : ∀ x, x < a → K_48 x = K x := fun x hx => (show K_48 x = K_44 x by rw [h_48.2 _ (by omega)]).trans (f_44 x hx)
        refine cn_aast F (t := 3) (ci := 2) (j := i) p_48_1 h_48.1.1 rfl (F.2.1.2 3 _ rfl).2 rfl ⟨by omega, by decide⟩ dX5_init_51 ?_
        refine cn_up (fun K_51 e_51 => ?_)
        have p_51_0 : K_51 a = some (.inr (6, [.ref (a + 1), .int 0, .ref (a + 2), .int 0, .ref (a + 3), .int 0, .int 0, .int 0, .int 0, .int 0, .int 0])) := by rw [e_51, cn_u_n (by omega)]; exact p_48_0
        have p_51_2 : K_51 (a + 2) = some (.inl (cA 4, 8, .inr (.inr (.inr (.inr (fun _ => none)))))) := by rw [e_51, cn_u_n (by omega)]; exact p_48_2
        have p_51_3 : cp_book K_51 cA (a + 3) := (p_48_3).fr (fun x h1 h2 => by rw [e_51, cn_u_n (by omega)])
        have p_51_4 : ∀ j, j < i → cp_cord K_51 cA (a + 7 + 2 * j) := fun j hj => (p_48_4 j hj).fr (fun x h1 h2 => by rw [e_51, cn_u_n (by omega)])
        have p_51_5 : K_51 (a + 7 + 2 * i) = some (.inr (2, [.ref (a + 7 + 2 * i + 1), .int 0, .int 0, .int 0, .int 0, .int 0, .int 0, .int (-1)])) := by rw [e_51, cn_u_n (by omega)]; exact h_48.1.1
        have p_51_6 : cp_cord K_51 cA (a + 7 + 2 * i) := (h_48.1).fr (fun x h1 h2 => by rw [e_51, cn_u_n (by omega)])
        have p_51_n : K_51 (a + 1) = some (.inl (cA 3, 4, .inr (.inr (.inr (.inr (va_up f i (some (a + 7 + 2 * i)))))))) := by rw [e_51]; exact cn_u_s _ _ _
        have f_51 : ∀ x, x < a → K_51 x = K x := fun x hx => (show K_51 x = K_48 x by rw [e_51, cn_u_n (by omega)]).trans (f_48 x hx)
        refine cn_iinc F dX5_init_52 rfl (by decide) (fun x_52 e9_52 => ?_)
        obtain rfl : x_52 = nI (i + 1) := by rw [e9_52]; exact nI_1 _
        refine cn_goto F (tgt := 34) dX5_init_55 (by decide) ?_
        refine cn_sz (sz1 := a + 7 + 2 * (i + 1)) (by omega) ?_
        refine cn_widen (k := 6 + 2 * (i + 1)) (n := 41 + 14 * (i + 1)) (by omega) (by omega) ?_
        refine cn_loc (L2 := [(0, .ref a), (1, .int (nI (i + 1)))]) rfl ?_
        exact ih_34 (i + 1) K_51 _ (by omega) p_51_0 p_51_n (fun j hj => by
            unfold va_up
            by_cases e : j = i
            · rw [if_pos e, e]
            · rw [if_neg e]; exact hf j (by omega)) p_51_2 p_51_3 (fun j hj => by
            by_cases e : j = i
            · rw [e]; exact p_51_6
            · exact p_51_4 j (by omega)) f_51 (by omega)
  refine cn_aload_n F (i := 0) dX5_init_0 rfl rfl ?_
  refine cn_objInit F (F.1.2.2.2.2 _ (List.mem_of_getElem? (l := wsX5_init) (i := 1) (a := .methodLink RX5 3 objectInit) (by decide +kernel))) (F.1.2.2.2.2 _ (List.mem_of_getElem? (l := wsX5_init) (i := 2) (a := .instanceMethod objectInit) (by decide +kernel))) (F.1.2.2.2.2 _ (List.mem_of_getElem? (l := wsX5_init) (i := 3) (a := .code objectInit ⟨#[0xb1]⟩ 1 none) (by decide +kernel))) dX5_init_1 ⟨Nat.le_of_ble_eq_true rfl, Nat.le_of_ble_eq_true rfl⟩ ?_
  refine cn_aload_n F (i := 0) dX5_init_4 rfl rfl ?_
  refine cn_iconst F (v := 4) dX5_init_5 rfl ?_
  refine cn_newq F (t := 3) (N := 4) (C := "CordClock$Cord") (F.1.2.2.2.2 _ (List.mem_of_getElem? (l := wsX5_init) (i := 4) (a := .classLink RX5 9 RX1) (by decide +kernel))) O.1.use (show va_RA _ (cA 3) (.object "CordClock$Cord") from (F.2.1.2 3 _ rfl).2).choose_spec.choose_spec.2.2.2 (by decide) (by decide) (Nat.le_of_ble_eq_true rfl) ⟨Nat.le_of_ble_eq_true rfl, Nat.le_of_ble_eq_true rfl⟩ dX5_init_6 ?_
  refine cn_up (fun K_6 e_6 => ?_)
  have p_6_0 : K_6 a = some (.inr (6, [.null, .int 0, .null, .int 0, .null, .int 0, .int 0, .int 0, .int 0, .int 0, .int 0])) := by rw [e_6, cn_u_n (by omega)]; exact h0
  have p_6_n : K_6 (a + 1) = some (.inl (cA 3, 4, .inr (.inr (.inr (.inr (fun _ => none)))))) := by rw [e_6]; exact cn_u_s _ _ _
  have f_6 : ∀ x, x < a → K_6 x = K x := fun x hx => (show K_6 x = K x by rw [e_6, cn_u_n (by omega)]).trans ((fun _ _ => rfl) x hx)
  refine cn_putF F (C := RX5) (T := TX5) (N := 11) (ci := 6) (fs := [.null, .int 0, .null, .int 0, .null, .int 0, .int 0, .int 0, .int 0, .int 0, .int 0]) p_6_0 rfl inX5 tyX5 tyX5_ok nmX5 0 (by decide) (F.1.2.2.2.2 _ (List.mem_of_getElem? (l := wsX5_init) (i := 5) (a := .fieldLink RX5 11 "CordClock$State" "cords" "[LCordClock$Cord;") (by decide +kernel))) rfl hnm rfl rfl rfl (Nat.le_of_ble_eq_true rfl) dX5_init_9 ?_
  refine cn_up (fun K_9 e_9 => ?_)
  have p_9_1 : K_9 (a + 1) = some (.inl (cA 3, 4, .inr (.inr (.inr (.inr (fun _ => none)))))) := by rw [e_9, cn_u_n (by omega)]; exact p_6_n
  have p_9_n : K_9 a = some (.inr (6, [.ref (a + 1), .int 0, .null, .int 0, .null, .int 0, .int 0, .int 0, .int 0, .int 0, .int 0])) := by rw [e_9]; exact cn_u_s _ _ _
  have f_9 : ∀ x, x < a → K_9 x = K x := fun x hx => (show K_9 x = K_6 x by rw [e_9, cn_u_n (by omega)]).trans (f_6 x hx)
  refine cn_aload_n F (i := 0) dX5_init_12 rfl rfl ?_
  refine cn_bipush F (v := 8) dX5_init_13 (by decide) ?_
  refine cn_newq F (t := 4) (N := 8) (C := "CordClock$Rule") (F.1.2.2.2.2 _ (List.mem_of_getElem? (l := wsX5_init) (i := 6) (a := .classLink RX5 17 RX4) (by decide +kernel))) O.2.1.use (show va_RA _ (cA 4) (.object "CordClock$Rule") from (F.2.1.2 4 _ rfl).2).choose_spec.choose_spec.2.2.2 (by decide) (by decide) (Nat.le_of_ble_eq_true rfl) ⟨Nat.le_of_ble_eq_true rfl, Nat.le_of_ble_eq_true rfl⟩ dX5_init_15 ?_
  refine cn_up (fun K_15 e_15 => ?_)
  have p_15_0 : K_15 (a + 1) = some (.inl (cA 3, 4, .inr (.inr (.inr (.inr (fun _ => none)))))) := by rw [e_15, cn_u_n (by omega)]; exact p_9_1
  have p_15_1 : K_15 a = some (.inr (6, [.ref (a + 1), .int 0, .null, .int 0, .null, .int 0, .int 0, .int 0, .int 0, .int 0, .int 0])) := by rw [e_15, cn_u_n (by omega)]; exact p_9_n
  have p_15_n : K_15 (a + 1 + 1) = some (.inl (cA 4, 8, .inr (.inr (.inr (.inr (fun _ => none)))))) := by rw [e_15]; exact cn_u_s _ _ _
  have f_15 : ∀ x, x < a → K_15 x = K x := fun x hx => (show K_15 x = K_9 x by rw [e_15, cn_u_n (by omega)]).trans (f_9 x hx)
  refine cn_putF F (C := RX5) (T := TX5) (N := 11) (ci := 6) (fs := [.ref (a + 1), .int 0, .null, .int 0, .null, .int 0, .int 0, .int 0, .int 0, .int 0, .int 0]) p_15_1 rfl inX5 tyX5 tyX5_ok nmX5 2 (by decide) (F.1.2.2.2.2 _ (List.mem_of_getElem? (l := wsX5_init) (i := 7) (a := .fieldLink RX5 19 "CordClock$State" "rules" "[LCordClock$Rule;") (by decide +kernel))) rfl hnm rfl rfl rfl (Nat.le_of_ble_eq_true rfl) dX5_init_18 ?_
  refine cn_up (fun K_18 e_18 => ?_)
  have p_18_0 : K_18 (a + 1) = some (.inl (cA 3, 4, .inr (.inr (.inr (.inr (fun _ => none)))))) := by rw [e_18, cn_u_n (by omega)]; exact p_15_0
  have p_18_2 : K_18 (a + 1 + 1) = some (.inl (cA 4, 8, .inr (.inr (.inr (.inr (fun _ => none)))))) := by rw [e_18, cn_u_n (by omega)]; exact p_15_n
  have p_18_n : K_18 a = some (.inr (6, [.ref (a + 1), .int 0, .ref (a + 1 + 1), .int 0, .null, .int 0, .int 0, .int 0, .int 0, .int 0, .int 0])) := by rw [e_18]; exact cn_u_s _ _ _
  have f_18 : ∀ x, x < a → K_18 x = K x := fun x hx => (show K_18 x = K_15 x by rw [e_18, cn_u_n (by omega)]).trans (f_15 x hx)
  refine cn_aload_n F (i := 0) dX5_init_21 rfl rfl ?_
  refine cn_new F (C := RX0) (T := TX0) (N := 5) (ci := 1) (fs := [.null, .null, .null, .int 0, .int 0]) rfl inX0 tyX0 tyX0_ok (F.1.2.2.2.2 _ (List.mem_of_getElem? (l := wsX5_init) (i := 8) (a := .classLink RX5 23 RX0) (by decide +kernel))) (F.1.2.2.2.2 _ (List.mem_of_getElem? (l := wsX5_init) (i := 9) (a := .instantiable RX0 5) (by decide +kernel))) (F.1.2.2.2.2 _ (List.mem_of_getElem? (l := wsX5_init) (i := 10) (a := .initialized RX0) (by decide +kernel))) (fun j hj => by rcases (show j = 0 ∨ j = 1 ∨ j = 2 ∨ j = 3 ∨ j = 4 by omega) with rfl | rfl | rfl | rfl | rfl <;> rfl) ⟨Nat.le_of_ble_eq_true rfl, Nat.le_of_ble_eq_true rfl⟩ dX5_init_22 ?_
  refine cn_up (fun K_22 e_22 => ?_)
  have p_22_0 : K_22 (a + 1) = some (.inl (cA 3, 4, .inr (.inr (.inr (.inr (fun _ => none)))))) := by rw [e_22, cn_u_n (by omega)]; exact p_18_0
  have p_22_1 : K_22 (a + 1 + 1) = some (.inl (cA 4, 8, .inr (.inr (.inr (.inr (fun _ => none)))))) := by rw [e_22, cn_u_n (by omega)]; exact p_18_2
  have p_22_2 : K_22 a = some (.inr (6, [.ref (a + 1), .int 0, .ref (a + 1 + 1), .int 0, .null, .int 0, .int 0, .int 0, .int 0, .int 0, .int 0])) := by rw [e_22, cn_u_n (by omega)]; exact p_18_n
  have p_22_n : K_22 (a + 1 + 1 + 1) = some (.inr (1, [.null, .null, .null, .int 0, .int 0])) := by rw [e_22]; exact cn_u_s _ _ _
  have f_22 : ∀ x, x < a → K_22 x = K x := fun x hx => (show K_22 x = K_18 x by rw [e_22, cn_u_n (by omega)]).trans (f_18 x hx)
  refine cn_dup F dX5_init_25 rfl ?_
  refine cn_callIN F O (kX0_init l D cA Bs (a + 1 + 1 + 1) K_22 p_22_n) ⟨va_cnB 0 F.1.2.2.2.2 ggX5_init_X0_init rfl rfl rfl (F.2.2.2.2.2.1 _ (List.mem_of_getElem? (l := cq_nm) (i := 3) rfl)) (F.1.2.2.2.2 _ (List.mem_of_getElem? (l := wsX5_init) (i := 10) (a := .initialized RX0) (by decide +kernel))) (by decide +kernel) ⟨Nat.le_of_ble_eq_true rfl, Nat.le_of_ble_eq_true rfl⟩, rfl, (F.1.2.2.2.2 _ (List.mem_of_getElem? (l := wsX5_init) (i := 16) (a := .instanceMethod yX0_init) (by decide +kernel)))⟩ rfl (Nat.le_of_ble_eq_true rfl) dX5_init_26 ⟨Nat.le_of_ble_eq_true rfl, Nat.le_of_ble_eq_true rfl⟩ (fun K_26 h_26 => ?_)
  have p_26_0 : K_26 (a + 1) = some (.inl (cA 3, 4, .inr (.inr (.inr (.inr (fun _ => none)))))) := by rw [h_26.2 _ (by omega)]; exact p_22_0
  have p_26_1 : K_26 (a + 1 + 1) = some (.inl (cA 4, 8, .inr (.inr (.inr (.inr (fun _ => none)))))) := by rw [h_26.2 _ (by omega)]; exact p_22_1
  have p_26_2 : K_26 a = some (.inr (6, [.ref (a + 1), .int 0, .ref (a + 1 + 1), .int 0, .null, .int 0, .int 0, .int 0, .int 0, .int 0, .int 0])) := by rw [h_26.2 _ (by omega)]; exact p_22_2
  have f_26 : ∀ x, x < a → K_26 x = K x := fun x hx => (show K_26 x = K_22 x by rw [h_26.2 _ (by omega)]).trans (f_22 x hx)
  refine cn_putF F (C := RX5) (T := TX5) (N := 11) (ci := 6) (fs := [.ref (a + 1), .int 0, .ref (a + 1 + 1), .int 0, .null, .int 0, .int 0, .int 0, .int 0, .int 0, .int 0]) p_26_2 rfl inX5 tyX5 tyX5_ok nmX5 4 (by decide) (F.1.2.2.2.2 _ (List.mem_of_getElem? (l := wsX5_init) (i := 11) (a := .fieldLink RX5 26 "CordClock$State" "book" "LCordClock$Book;") (by decide +kernel))) rfl hnm rfl rfl rfl (Nat.le_of_ble_eq_true rfl) dX5_init_29 ?_
  refine cn_up (fun K_29 e_29 => ?_)
  have p_29_0 : K_29 (a + 1) = some (.inl (cA 3, 4, .inr (.inr (.inr (.inr (fun _ => none)))))) := by rw [e_29, cn_u_n (by omega)]; exact p_26_0
  have p_29_1 : K_29 (a + 1 + 1) = some (.inl (cA 4, 8, .inr (.inr (.inr (.inr (fun _ => none)))))) := by rw [e_29, cn_u_n (by omega)]; exact p_26_1
  have p_29_3 : cp_book K_29 cA (a + 1 + 1 + 1) := (h_26.1).fr (fun x h1 h2 => by rw [e_29, cn_u_n (by omega)])
  have p_29_n : K_29 a = some (.inr (6, [.ref (a + 1), .int 0, .ref (a + 1 + 1), .int 0, .ref (a + 1 + 1 + 1), .int 0, .int 0, .int 0, .int 0, .int 0, .int 0])) := by rw [e_29]; exact cn_u_s _ _ _
  have f_29 : ∀ x, x < a → K_29 x = K x := fun x hx => (show K_29 x = K_26 x by rw [e_29, cn_u_n (by omega)]).trans (f_26 x hx)
  refine cn_iconst F (v := 0) dX5_init_32 rfl ?_
  refine cn_istore_n F (i := 1) dX5_init_33 rfl (by decide) ?_
  refine cn_sz (sz1 := a + 7 + 2 * 0) (by omega) ?_
  refine cn_widen (k := 6 + 2 * 0) (n := 41 + 14 * 0) (by omega) (by omega) ?_
  refine cn_loc (L2 := [(0, .ref a), (1, .int (nI 0))]) rfl ?_
  exact loop_34 6 0 K_29 (fun _ => none) (by omega) p_29_n p_29_0 (fun j hj => absurd hj (by omega)) p_29_1 p_29_3 (fun j hj => absurd hj (by omega)) f_29 (by omega)
