/-! the start: shapes and memory of the law's new objects -/
def w9_t : List (Nat × Nat × List Nat) := [(7, 0, [1, 24, 47, 0, 0, 48, 49, 50, 53]), (6, 0, [2, 0, 3, 0, 4]), (13, 4, [8, 10, 12, 14]), (14, 8, [16, 17, 18, 19, 20, 21, 22, 23]), (1, 0, [5, 6, 7]), (10, 8, []), (10, 8, []), (10, 8, []), (2, 0, [9]), (10, 6, []), (2, 0, [11]), (10, 6, []), (2, 0, [13]), (10, 6, []), (2, 0, [15]), (10, 6, []), (5, 0, []), (5, 0, []), (5, 0, []), (5, 0, []), (5, 0, []), (5, 0, []), (5, 0, []), (5, 0, []), (6, 0, [25, 0, 26, 0, 27]), (13, 4, [31, 33, 35, 37]), (14, 8, [39, 40, 41, 42, 43, 44, 45, 46]), (1, 0, [28, 29, 30]), (10, 8, []), (10, 8, []), (10, 8, []), (2, 0, [32]), (10, 6, []), (2, 0, [34]), (10, 6, []), (2, 0, [36]), (10, 6, []), (2, 0, [38]), (10, 6, []), (5, 0, []), (5, 0, []), (5, 0, []), (5, 0, []), (5, 0, []), (5, 0, []), (5, 0, []), (5, 0, []), (15, 6, [65, 88, 111, 134, 157, 180]), (15, 2, [203, 226]), (12, 2, []), (3, 0, [51, 0, 0, 0, 52]), (11, 60, []), (10, 6, []), (4, 0, [54, 55, 60]), (10, 1081, []), (16, 4, [56, 57, 58, 59]), (10, 3, []), (10, 3, []), (10, 3, []), (10, 3, []), (16, 4, [61, 62, 63, 64]), (10, 3, []), (10, 3, []), (10, 3, []), (10, 3, []), (6, 0, [66, 0, 67, 0, 68]), (13, 4, [72, 74, 76, 78]), (14, 8, [80, 81, 82, 83, 84, 85, 86, 87]), (1, 0, [69, 70, 71]), (10, 8, []), (10, 8, []), (10, 8, []), (2, 0, [73]), (10, 6, []), (2, 0, [75]), (10, 6, []), (2, 0, [77]), (10, 6, []), (2, 0, [79]), (10, 6, []), (5, 0, []), (5, 0, []), (5, 0, []), (5, 0, []), (5, 0, []), (5, 0, []), (5, 0, []), (5, 0, []), (6, 0, [89, 0, 90, 0, 91]), (13, 4, [95, 97, 99, 101]), (14, 8, [103, 104, 105, 106, 107, 108, 109, 110]), (1, 0, [92, 93, 94]), (10, 8, []), (10, 8, []), (10, 8, []), (2, 0, [96]), (10, 6, []), (2, 0, [98]), (10, 6, []), (2, 0, [100]), (10, 6, []), (2, 0, [102]), (10, 6, []), (5, 0, []), (5, 0, []), (5, 0, []), (5, 0, []), (5, 0, []), (5, 0, []), (5, 0, []), (5, 0, []), (6, 0, [112, 0, 113, 0, 114]), (13, 4, [118, 120, 122, 124]), (14, 8, [126, 127, 128, 129, 130, 131, 132, 133]), (1, 0, [115, 116, 117]), (10, 8, []), (10, 8, []), (10, 8, []), (2, 0, [119]), (10, 6, []), (2, 0, [121]), (10, 6, []), (2, 0, [123]), (10, 6, []), (2, 0, [125]), (10, 6, []), (5, 0, []), (5, 0, []), (5, 0, []), (5, 0, []), (5, 0, []), (5, 0, []), (5, 0, []), (5, 0, []), (6, 0, [135, 0, 136, 0, 137]), (13, 4, [141, 143, 145, 147]), (14, 8, [149, 150, 151, 152, 153, 154, 155, 156]), (1, 0, [138, 139, 140]), (10, 8, []), (10, 8, []), (10, 8, []), (2, 0, [142]), (10, 6, []), (2, 0, [144]), (10, 6, []), (2, 0, [146]), (10, 6, []), (2, 0, [148]), (10, 6, []), (5, 0, []), (5, 0, []), (5, 0, []), (5, 0, []), (5, 0, []), (5, 0, []), (5, 0, []), (5, 0, []), (6, 0, [158, 0, 159, 0, 160]), (13, 4, [164, 166, 168, 170]), (14, 8, [172, 173, 174, 175, 176, 177, 178, 179]), (1, 0, [161, 162, 163]), (10, 8, []), (10, 8, []), (10, 8, []), (2, 0, [165]), (10, 6, []), (2, 0, [167]), (10, 6, []), (2, 0, [169]), (10, 6, []), (2, 0, [171]), (10, 6, []), (5, 0, []), (5, 0, []), (5, 0, []), (5, 0, []), (5, 0, []), (5, 0, []), (5, 0, []), (5, 0, []), (6, 0, [181, 0, 182, 0, 183]), (13, 4, [187, 189, 191, 193]), (14, 8, [195, 196, 197, 198, 199, 200, 201, 202]), (1, 0, [184, 185, 186]), (10, 8, []), (10, 8, []), (10, 8, []), (2, 0, [188]), (10, 6, []), (2, 0, [190]), (10, 6, []), (2, 0, [192]), (10, 6, []), (2, 0, [194]), (10, 6, []), (5, 0, []), (5, 0, []), (5, 0, []), (5, 0, []), (5, 0, []), (5, 0, []), (5, 0, []), (5, 0, []), (6, 0, [204, 0, 205, 0, 206]), (13, 4, [210, 212, 214, 216]), (14, 8, [218, 219, 220, 221, 222, 223, 224, 225]), (1, 0, [207, 208, 209]), (10, 8, []), (10, 8, []), (10, 8, []), (2, 0, [211]), (10, 6, []), (2, 0, [213]), (10, 6, []), (2, 0, [215]), (10, 6, []), (2, 0, [217]), (10, 6, []), (5, 0, []), (5, 0, []), (5, 0, []), (5, 0, []), (5, 0, []), (5, 0, []), (5, 0, []), (5, 0, []), (6, 0, [227, 0, 228, 0, 229]), (13, 4, [233, 235, 237, 239]), (14, 8, [241, 242, 243, 244, 245, 246, 247, 248]), (1, 0, [230, 231, 232]), (10, 8, []), (10, 8, []), (10, 8, []), (2, 0, [234]), (10, 6, []), (2, 0, [236]), (10, 6, []), (2, 0, [238]), (10, 6, []), (2, 0, [240]), (10, 6, []), (5, 0, []), (5, 0, []), (5, 0, []), (5, 0, []), (5, 0, []), (5, 0, []), (5, 0, []), (5, 0, [])]
/-- the shape at 0 -/
def w9_0 : cq_X := (fun i => (w9_t.getD i (0, 0, [])).1, fun i => (w9_t.getD i (0, 0, [])).2.1, fun i k => (w9_t.getD i (0, 0, [])).2.2.getD k 0)
/-- the shape at b -/
def w9_X (b : Nat) : cq_X := (fun a => if a < b then 0 else w9_0.1 (a - b), fun a => w9_0.2.1 (a - b), fun a k => b + w9_0.2.2 (a - b) k)
def w9_M (X : cq_X) : cq_M := fun a k => if X.1 a = 2 ∧ k = 7 then -1 else 0
def w9_s (X0 X : cq_X) (b : Nat) : Prop := ∀ i, X.1 (b + i) = X0.1 i ∧ X.2.1 (b + i) = X0.2.1 i ∧ ∀ k, X.2.2 (b + i) k = b + X0.2.2 i k
theorem w9_X_s (b : Nat) : w9_s w9_0 (w9_X b) b := fun i => ⟨by
  show (if b + i < b then 0 else w9_0.1 (b + i - b)) = _
  rw [if_neg (by omega), Nat.add_sub_cancel_left], by
  show w9_0.2.1 (b + i - b) = _
  rw [Nat.add_sub_cancel_left], fun k => by
  show b + w9_0.2.2 (b + i - b) k = _
  rw [Nat.add_sub_cancel_left]⟩
theorem w9_len : w9_t.length = 249 := by decide +kernel
theorem w9_0_far {i : Nat} (h : 249 ≤ i) : w9_0.1 i = 0 := by
  show (w9_t.getD i (0, 0, [])).1 = 0
  rw [List.getD_eq_getElem?_getD, List.getElem?_eq_none (by rw [w9_len]; exact h)]
  rfl
theorem w9_X_in {b a : Nat} (h : (w9_X b).1 a ≠ 0) : ∃ i, i < 249 ∧ a = b + i := by
  by_cases h1 : a < b
  · exact absurd (if_pos h1) h
  · refine ⟨a - b, Nat.lt_of_not_le (fun z => h ?_), by omega⟩
    show (if a < b then 0 else w9_0.1 (a - b)) = 0
    rw [if_neg h1, w9_0_far z]
theorem w9_s.k {X0 X : cq_X} {b i n x : Nat} (hs : w9_s X0 X b) (h : X0.1 i = n) (hx : b + i = x) : X.1 x = n := by rw [← hx, (hs i).1, h]
theorem w9_s.n {X0 X : cq_X} {b i n x : Nat} (hs : w9_s X0 X b) (h : X0.2.1 i = n) (hx : b + i = x) : X.2.1 x = n := by rw [← hx, (hs i).2.1, h]
theorem w9_s.t {X0 X : cq_X} {b i k t x y : Nat} (hs : w9_s X0 X b) (h : X0.2.2 i k = t) (hx : b + i = x) (hy : b + t = y) : X.2.2 x k = y := by rw [← hx, (hs i).2.2 k, h, hy]
theorem w9_Rule {X0 X : cq_X} {b a x : Nat} (hs : w9_s X0 X b) (h : cq_isRule X0 a) (hx : b + a = x) : cq_isRule X x := (hs.k h (by omega))
theorem w9_Cord {X0 X : cq_X} {b a x : Nat} (hs : w9_s X0 X b) (h : cq_isCord X0 a) (hx : b + a = x) : cq_isCord X x := ⟨(hs.k h.1 (by omega)), (hs.t h.2.1 (by omega) (by omega)), (hs.k h.2.2.1 (by omega)), (hs.n h.2.2.2 (by omega))⟩
theorem w9_Book {X0 X : cq_X} {b a x : Nat} (hs : w9_s X0 X b) (h : cq_isBook X0 a) (hx : b + a = x) : cq_isBook X x := ⟨(hs.k h.1 (by omega)), (hs.t h.2.1 (by omega) (by omega)), (hs.k h.2.2.1 (by omega)), (hs.n h.2.2.2.1 (by omega)), (hs.t h.2.2.2.2.1 (by omega) (by omega)), (hs.k h.2.2.2.2.2.1 (by omega)), (hs.n h.2.2.2.2.2.2.1 (by omega)), (hs.t h.2.2.2.2.2.2.2.1 (by omega) (by omega)), (hs.k h.2.2.2.2.2.2.2.2.1 (by omega)), (hs.n h.2.2.2.2.2.2.2.2.2 (by omega))⟩
theorem w9_State {X0 X : cq_X} {b a x : Nat} (hs : w9_s X0 X b) (h : cq_isState X0 a) (hx : b + a = x) : cq_isState X x := ⟨(hs.k h.1 (by omega)), (hs.t h.2.1 (by omega) (by omega)), (hs.k h.2.2.1 (by omega)), (hs.n h.2.2.2.1 (by omega)), (hs.t h.2.2.2.2.1 (by omega) (by omega)), (hs.k h.2.2.2.2.2.1 (by omega)), (hs.n h.2.2.2.2.2.2.1 (by omega)), (hs.t h.2.2.2.2.2.2.2.1 (by omega) (by omega)), (w9_Book hs h.2.2.2.2.2.2.2.2.1 (by omega)), (fun j hj => (hs.t (h.2.2.2.2.2.2.2.2.2.1 j hj) (by omega) (by omega))), (fun j hj => (w9_Cord hs (h.2.2.2.2.2.2.2.2.2.2.1 j hj) (by omega))), (fun j hj => (hs.t (h.2.2.2.2.2.2.2.2.2.2.2.1 j hj) (by omega) (by omega))), (fun j hj => (w9_Rule hs (h.2.2.2.2.2.2.2.2.2.2.2.2 j hj) (by omega)))⟩
theorem w9_Text {X0 X : cq_X} {b a x : Nat} (hs : w9_s X0 X b) (h : cq_isText X0 a) (hx : b + a = x) : cq_isText X x := ⟨(hs.k h.1 (by omega)), (hs.t h.2.1 (by omega) (by omega)), (hs.k h.2.2.1 (by omega)), (hs.n h.2.2.2.1 (by omega)), (hs.t h.2.2.2.2.1 (by omega) (by omega)), (hs.k h.2.2.2.2.2.1 (by omega)), (hs.n h.2.2.2.2.2.2 (by omega))⟩
theorem w9_Plans {X0 X : cq_X} {b a x : Nat} (hs : w9_s X0 X b) (h : cq_isPlans X0 a) (hx : b + a = x) : cq_isPlans X x := ⟨(hs.k h.1 (by omega)), (hs.t h.2.1 (by omega) (by omega)), (hs.k h.2.2.1 (by omega)), (hs.n h.2.2.2.1 (by omega)), (hs.t h.2.2.2.2.1 (by omega) (by omega)), (hs.k h.2.2.2.2.2.1 (by omega)), (hs.n h.2.2.2.2.2.2.1 (by omega)), (hs.t h.2.2.2.2.2.2.2.1 (by omega) (by omega)), (hs.k h.2.2.2.2.2.2.2.2.1 (by omega)), (hs.n h.2.2.2.2.2.2.2.2.2.1 (by omega)), (fun j hj => (hs.t (h.2.2.2.2.2.2.2.2.2.2.1 j hj) (by omega) (by omega))), (fun j hj => (hs.k (h.2.2.2.2.2.2.2.2.2.2.2.1 j hj) (by omega))), (fun j hj => (hs.n (h.2.2.2.2.2.2.2.2.2.2.2.2.1 j hj) (by omega))), (fun j hj => (hs.t (h.2.2.2.2.2.2.2.2.2.2.2.2.2.1 j hj) (by omega) (by omega))), (fun j hj => (hs.k (h.2.2.2.2.2.2.2.2.2.2.2.2.2.2.1 j hj) (by omega))), (fun j hj => (hs.n (h.2.2.2.2.2.2.2.2.2.2.2.2.2.2.2 j hj) (by omega)))⟩
theorem w9_Clock {X0 X : cq_X} {b a x : Nat} (hs : w9_s X0 X b) (h : cq_isClock X0 a) (hx : b + a = x) : cq_isClock X x := ⟨(hs.k h.1 (by omega)), (hs.t h.2.1 (by omega) (by omega)), (w9_State hs h.2.2.1 (by omega)), (hs.t h.2.2.2.1 (by omega) (by omega)), (w9_State hs h.2.2.2.2.1 (by omega)), (hs.t h.2.2.2.2.2.1 (by omega) (by omega)), (hs.k h.2.2.2.2.2.2.1 (by omega)), (hs.n h.2.2.2.2.2.2.2.1 (by omega)), (hs.t h.2.2.2.2.2.2.2.2.1 (by omega) (by omega)), (hs.k h.2.2.2.2.2.2.2.2.2.1 (by omega)), (hs.n h.2.2.2.2.2.2.2.2.2.2.1 (by omega)), (hs.t h.2.2.2.2.2.2.2.2.2.2.2.1 (by omega) (by omega)), (hs.k h.2.2.2.2.2.2.2.2.2.2.2.2.1 (by omega)), (hs.n h.2.2.2.2.2.2.2.2.2.2.2.2.2.1 (by omega)), (hs.t h.2.2.2.2.2.2.2.2.2.2.2.2.2.2.1 (by omega) (by omega)), (w9_Text hs h.2.2.2.2.2.2.2.2.2.2.2.2.2.2.2.1 (by omega)), (hs.t h.2.2.2.2.2.2.2.2.2.2.2.2.2.2.2.2.1 (by omega) (by omega)), (w9_Plans hs h.2.2.2.2.2.2.2.2.2.2.2.2.2.2.2.2.2.1 (by omega)), (fun j hj => (hs.t (h.2.2.2.2.2.2.2.2.2.2.2.2.2.2.2.2.2.2.1 j hj) (by omega) (by omega))), (fun j hj => (w9_State hs (h.2.2.2.2.2.2.2.2.2.2.2.2.2.2.2.2.2.2.2.1 j hj) (by omega))), (fun j hj => (hs.t (h.2.2.2.2.2.2.2.2.2.2.2.2.2.2.2.2.2.2.2.2.1 j hj) (by omega) (by omega))), (fun j hj => (w9_State hs (h.2.2.2.2.2.2.2.2.2.2.2.2.2.2.2.2.2.2.2.2.2 j hj) (by omega)))⟩
set_option maxRecDepth 100000 in
theorem w9_st : ∀ s ∈ [1, 24, 65, 88, 111, 134, 157, 180, 203, 226], cq_isState w9_0 s := by
  intro s hs
  refine ⟨?_, ?_, ?_, ?_, ?_, ?_, ?_, ?_, ⟨?_, ?_, ?_, ?_, ?_, ?_, ?_, ?_, ?_, ?_⟩, ?_, fun j hj => ⟨?_, ?_, ?_, ?_⟩, ?_, fun j hj => ?_⟩
  all_goals first | (revert s; decide +kernel) | (revert j; revert s; decide +kernel) | (unfold cq_isRule; revert j; revert s; decide +kernel)
set_option maxRecDepth 100000 in
theorem w9_c0 : cq_isClock w9_0 0 := by
  refine ⟨by decide +kernel, by decide +kernel, w9_st _ (by decide), by decide +kernel, w9_st _ (by decide), by decide +kernel, by decide +kernel, by decide +kernel, by decide +kernel, by decide +kernel, by decide +kernel, by decide +kernel, by decide +kernel, by decide +kernel, by decide +kernel, ⟨by decide +kernel, by decide +kernel, by decide +kernel, by decide +kernel, by decide +kernel, by decide +kernel, by decide +kernel⟩, by decide +kernel, ⟨by decide +kernel, by decide +kernel, by decide +kernel, by decide +kernel, by decide +kernel, by decide +kernel, by decide +kernel, by decide +kernel, by decide +kernel, by decide +kernel, by decide +kernel, by decide +kernel, by decide +kernel, by decide +kernel, by decide +kernel, by decide +kernel⟩, by decide +kernel, fun j hj => w9_st _ ?_, by decide +kernel, fun j hj => w9_st _ ?_⟩
  · revert j
    decide +kernel
  · revert j
    decide +kernel
theorem w9_clock (b : Nat) : cq_isClock (w9_X b) b := w9_Clock (w9_X_s b) w9_c0 (by omega)
/-- cells that are one on the heap -/
def w9_q (e1 e2 : va_E) : Prop := e1 = e2 ∨ ∃ (c : ClassId) (n : Nat) (f g : Nat → Option Nat), e1 = .inl (c, n, .inr (.inr (.inr (.inr f)))) ∧ e2 = .inl (c, n, .inr (.inr (.inr (.inr g)))) ∧ ∀ j, j < n → f j = g j
theorem w9_q.at {D : va_G} {a : Nat} {e1 e2 : va_E} {H : Heap} (h : w9_q e1 e2) (ha : va_at D vwCl (a, e1) H) : va_at D vwCl (a, e2) H := by
  rcases h with rfl | ⟨c, n, f, g, rfl, rfl, h⟩
  · exact ha
  · have e9 : vp_cell c (n, .inr (.inr (.inr (.inr f)))) = vp_cell c (n, .inr (.inr (.inr (.inr g)))) := by
      rw [vp_cell_q, vp_cell_q]
      unfold arrV
      have e8 : (fun j : Fin n => va_rf (f j.val)) = fun j : Fin n => va_rf (g j.val) := funext fun j => by rw [h j.1 j.2]
      rw [e8]
    show H[a]? = some (vp_cell c (n, .inr (.inr (.inr (.inr g)))))
    rw [← e9]
    exact ha
/-- the cell that the shape and the memory ask at a -/
def w9_e (cA : Nat → ClassId) (X : cq_X) (M : cq_M) (a : Nat) : va_E := if X.1 a < 10 then .inr (X.1 a, cq_o X M (X.1 a) a) else .inl (cA (X.1 a - 10), cq_c (X.1 a - 10) (X.2.1 a) (M a) (X.2.2 a))
def w9_ok (K : cn_K) (cA : Nat → ClassId) (X : cq_X) (M : cq_M) (a : Nat) : Prop := ∃ e9, K a = some e9 ∧ w9_q e9 (w9_e cA X M a)
theorem w9_H {D : va_G} {cA : Nat → ClassId} {X : cq_X} {Bs : Nat} {M : cq_M} {H : Heap} {K : cn_K} (h : cn_H D K Bs H) (hK : ∀ a, X.1 a ≠ 0 → w9_ok K cA X M a) : cq_H D cA X Bs M H := by
  have hz : ∀ a, X.1 a ≠ 0 → va_at D vwCl (a, w9_e cA X M a) H ∧ Bs ≤ a := fun a ha => by
    obtain ⟨e9, h1, h2⟩ := hK a ha
    exact ⟨h2.at (h a e9 h1).1, (h a e9 h1).2⟩
  refine ⟨fun a ci ha h0 h1 => ?_, fun a t ha => ?_, fun a ha => (hz a ha).2⟩
  · have := (hz a (by omega)).1
    unfold w9_e at this
    rw [if_pos (by omega), ha] at this
    exact this
  · have := (hz a (by omega)).1
    unfold w9_e at this
    rw [if_neg (by omega), ha, show 10 + t - 10 = t by omega] at this
    exact this
theorem w9_o {K : cn_K} {cA : Nat → ClassId} {X : cq_X} {M : cq_M} {a ci : Nat} {fs : List Value} (h : K a = some (.inr (ci, fs))) (hk : X.1 a = ci) (h1 : ci < 10) (hf : cq_o X M ci a = fs) : w9_ok K cA X M a := ⟨_, h, .inl (by unfold w9_e; rw [hk, if_pos h1, hf])⟩
theorem w9_i {K : cn_K} {cA : Nat → ClassId} {X : cq_X} {a t n : Nat} (h : K a = some (.inl (cA t, n, .inl (fun _ => 0)))) (hk : X.1 a = 10 + t) (hn : X.2.1 a = n) (ht : t < 3) : w9_ok K cA X (w9_M X) a := by
  refine ⟨_, h, .inl ?_⟩
  have e9 : w9_M X a = fun _ => 0 := funext fun k => if_neg (fun z => by omega)
  unfold w9_e
  rw [if_neg (by omega), hk, hn, e9, show 10 + t - 10 = t by omega]
  rcases (show t = 0 ∨ t = 1 ∨ t = 2 by omega) with rfl | rfl | rfl <;> rfl
theorem w9_r {K : cn_K} {cA : Nat → ClassId} {X : cq_X} {M : cq_M} {a t n : Nat} {tt : Nat → Nat} (h : cp_q K a (cA t) n tt) (hk : X.1 a = 10 + t) (hn : X.2.1 a = n) (ht : 3 ≤ t ∧ t ≤ 6) (hj : ∀ j, j < n → X.2.2 a j = tt j) : w9_ok K cA X M a := by
  obtain ⟨f, h1, h2⟩ := h
  refine ⟨_, h1, .inr ⟨cA t, n, f, fun k => some (X.2.2 a k), rfl, ?_, fun j hj9 => by show f j = some (X.2.2 a j); rw [h2 j hj9, hj j hj9]⟩⟩
  unfold w9_e
  rw [if_neg (by omega), hk, hn, show 10 + t - 10 = t by omega]
  rcases (show t = 3 ∨ t = 4 ∨ t = 5 ∨ t = 6 by omega) with rfl | rfl | rfl | rfl <;> rfl
theorem w9_o1 {X : cq_X} {a : Nat} {t0 t1 t2 : Nat} (hk : X.1 a = 1) (h0 : X.2.2 a 0 = t0) (h1 : X.2.2 a 1 = t1) (h2 : X.2.2 a 2 = t2) : cq_o X (w9_M X) 1 a = [.ref t0, .ref t1, .ref t2, .int 0, .int 0] := by
  show [cq_v X (w9_M X) 1 a 0, cq_v X (w9_M X) 1 a 1, cq_v X (w9_M X) 1 a 2, cq_v X (w9_M X) 1 a 3, cq_v X (w9_M X) 1 a 4] = _
  have e9 : w9_M X a = fun _ => 0 := funext fun k => if_neg (fun z => by omega)
  unfold cq_v
  rw [e9, h0, h1, h2]
  rfl
theorem w9_o2 {X : cq_X} {a : Nat} {t0 : Nat} (hk : X.1 a = 2) (h0 : X.2.2 a 0 = t0) : cq_o X (w9_M X) 2 a = [.ref t0, .int 0, .int 0, .int 0, .int 0, .int 0, .int 0, .int (-1)] := by
  show [cq_v X (w9_M X) 2 a 0, cq_v X (w9_M X) 2 a 1, cq_v X (w9_M X) 2 a 2, cq_v X (w9_M X) 2 a 3, cq_v X (w9_M X) 2 a 4, cq_v X (w9_M X) 2 a 5, cq_v X (w9_M X) 2 a 6, cq_v X (w9_M X) 2 a 7] = _
  have e9 : w9_M X a = fun k => if k = 7 then -1 else 0 := funext fun k => by unfold w9_M; rw [hk]; simp
  unfold cq_v
  rw [e9, h0]
  rfl
theorem w9_o3 {X : cq_X} {a : Nat} {t0 t4 : Nat} (hk : X.1 a = 3) (h0 : X.2.2 a 0 = t0) (h4 : X.2.2 a 4 = t4) : cq_o X (w9_M X) 3 a = [.ref t0, .int 0, .int 0, .int 0, .ref t4, .int 0, .int 0, .int 0, .int 0, .int 0] := by
  show [cq_v X (w9_M X) 3 a 0, cq_v X (w9_M X) 3 a 1, cq_v X (w9_M X) 3 a 2, cq_v X (w9_M X) 3 a 3, cq_v X (w9_M X) 3 a 4, cq_v X (w9_M X) 3 a 5, cq_v X (w9_M X) 3 a 6, cq_v X (w9_M X) 3 a 7, cq_v X (w9_M X) 3 a 8, cq_v X (w9_M X) 3 a 9] = _
  have e9 : w9_M X a = fun _ => 0 := funext fun k => if_neg (fun z => by omega)
  unfold cq_v
  rw [e9, h0, h4]
  rfl
theorem w9_o4 {X : cq_X} {a : Nat} {t0 t1 t2 : Nat} (hk : X.1 a = 4) (h0 : X.2.2 a 0 = t0) (h1 : X.2.2 a 1 = t1) (h2 : X.2.2 a 2 = t2) : cq_o X (w9_M X) 4 a = [.ref t0, .ref t1, .ref t2, .int 0] := by
  show [cq_v X (w9_M X) 4 a 0, cq_v X (w9_M X) 4 a 1, cq_v X (w9_M X) 4 a 2, cq_v X (w9_M X) 4 a 3] = _
  have e9 : w9_M X a = fun _ => 0 := funext fun k => if_neg (fun z => by omega)
  unfold cq_v
  rw [e9, h0, h1, h2]
  rfl
theorem w9_o5 {X : cq_X} {a : Nat} (hk : X.1 a = 5) : cq_o X (w9_M X) 5 a = [.int 0, .int 0, .int 0, .int 0] := by
  show [cq_v X (w9_M X) 5 a 0, cq_v X (w9_M X) 5 a 1, cq_v X (w9_M X) 5 a 2, cq_v X (w9_M X) 5 a 3] = _
  have e9 : w9_M X a = fun _ => 0 := funext fun k => if_neg (fun z => by omega)
  unfold cq_v
  rw [e9]
  rfl
theorem w9_o6 {X : cq_X} {a : Nat} {t0 t2 t4 : Nat} (hk : X.1 a = 6) (h0 : X.2.2 a 0 = t0) (h2 : X.2.2 a 2 = t2) (h4 : X.2.2 a 4 = t4) : cq_o X (w9_M X) 6 a = [.ref t0, .int 0, .ref t2, .int 0, .ref t4, .int 0, .int 0, .int 0, .int 0, .int 0, .int 0] := by
  show [cq_v X (w9_M X) 6 a 0, cq_v X (w9_M X) 6 a 1, cq_v X (w9_M X) 6 a 2, cq_v X (w9_M X) 6 a 3, cq_v X (w9_M X) 6 a 4, cq_v X (w9_M X) 6 a 5, cq_v X (w9_M X) 6 a 6, cq_v X (w9_M X) 6 a 7, cq_v X (w9_M X) 6 a 8, cq_v X (w9_M X) 6 a 9, cq_v X (w9_M X) 6 a 10] = _
  have e9 : w9_M X a = fun _ => 0 := funext fun k => if_neg (fun z => by omega)
  unfold cq_v
  rw [e9, h0, h2, h4]
  rfl
theorem w9_o7 {X : cq_X} {a : Nat} {t0 t1 t2 t5 t6 t7 t8 : Nat} (hk : X.1 a = 7) (h0 : X.2.2 a 0 = t0) (h1 : X.2.2 a 1 = t1) (h2 : X.2.2 a 2 = t2) (h5 : X.2.2 a 5 = t5) (h6 : X.2.2 a 6 = t6) (h7 : X.2.2 a 7 = t7) (h8 : X.2.2 a 8 = t8) : cq_o X (w9_M X) 7 a = [.ref t0, .ref t1, .ref t2, .int 0, .int 0, .ref t5, .ref t6, .ref t7, .ref t8] := by
  show [cq_v X (w9_M X) 7 a 0, cq_v X (w9_M X) 7 a 1, cq_v X (w9_M X) 7 a 2, cq_v X (w9_M X) 7 a 3, cq_v X (w9_M X) 7 a 4, cq_v X (w9_M X) 7 a 5, cq_v X (w9_M X) 7 a 6, cq_v X (w9_M X) 7 a 7, cq_v X (w9_M X) 7 a 8] = _
  have e9 : w9_M X a = fun _ => 0 := funext fun k => if_neg (fun z => by omega)
  unfold cq_v
  rw [e9, h0, h1, h2, h5, h6, h7, h8]
  rfl
theorem w9_Kc {K : cn_K} {cA : Nat → ClassId} {X : cq_X} {a : Nat} (h : cp_cord K cA a) (g : cq_isCord X a) : w9_ok K cA X (w9_M X) a ∧ w9_ok K cA X (w9_M X) (a + 1) := ⟨w9_o h.1 g.1 (by decide) (w9_o2 g.1 g.2.1), w9_i (t := 0) h.2 g.2.2.1 g.2.2.2 (by decide)⟩
theorem w9_Kb {K : cn_K} {cA : Nat → ClassId} {X : cq_X} {a : Nat} (h : cp_book K cA a) (g : cq_isBook X a) : ∀ i, i < 4 → w9_ok K cA X (w9_M X) (a + i) := by
  intro i hi
  rcases (show i = 0 ∨ i = 1 ∨ i = 2 ∨ i = 3 by omega) with rfl | rfl | rfl | rfl
  · exact w9_o h.1 g.kind (by decide) (w9_o1 g.kind g.t0 g.t1 g.t2)
  · exact w9_i (t := 0) h.2.1 g.k1 g.n1 (by decide)
  · exact w9_i (t := 0) h.2.2.1 g.k2 g.n2 (by decide)
  · exact w9_i (t := 0) h.2.2.2 g.k3 g.n3 (by decide)
theorem w9_Kt {K : cn_K} {cA : Nat → ClassId} {X : cq_X} {a : Nat} (h : cp_text K cA a) (g : cq_isText X a) : ∀ i, i < 3 → w9_ok K cA X (w9_M X) (a + i) := by
  intro i hi
  rcases (show i = 0 ∨ i = 1 ∨ i = 2 by omega) with rfl | rfl | rfl
  · exact w9_o h.1 g.kind (by decide) (w9_o3 g.kind g.t0 g.t4)
  · exact w9_i (t := 1) h.2.1 g.k1 g.n1 (by decide)
  · exact w9_i (t := 0) h.2.2 g.k2 g.n2 (by decide)
theorem w9_Ks {K : cn_K} {cA : Nat → ClassId} {X : cq_X} {a : Nat} (h : cp_state K cA a) (g : cq_isState X a) : ∀ i, i < 23 → w9_ok K cA X (w9_M X) (a + i) := by
  obtain ⟨h1, h2, h3, h4, h5, h6⟩ := h
  intro i hi
  by_cases e0 : i = 0
  · subst e0
    exact w9_o h1 g.kind (by decide) (w9_o6 g.kind g.t0 g.t2 g.t4)
  by_cases e1 : i = 1
  · subst e1
    exact w9_r (t := 3) h2 g.k1 g.n1 (by decide) (fun j hj => g.ct j hj)
  by_cases e2 : i = 2
  · subst e2
    exact w9_r (t := 4) h3 g.k2 g.n2 (by decide) (fun j hj => g.rt j hj)
  by_cases e3 : i < 7
  · obtain ⟨k, rfl⟩ : ∃ k, i = 3 + k := ⟨i - 3, by omega⟩
    rw [← Nat.add_assoc]
    exact w9_Kb h4 g.book k (by omega)
  by_cases e4 : i < 15
  · obtain ⟨j, r, hj, hr, rfl⟩ : ∃ j r, j < 4 ∧ r < 2 ∧ i = 7 + 2 * j + r := ⟨(i - 7) / 2, (i - 7) % 2, by omega, by omega, by omega⟩
    have hc := w9_Kc (h5 j hj) (g.cord j hj)
    rcases (show r = 0 ∨ r = 1 by omega) with rfl | rfl
    · rw [show a + (7 + 2 * j + 0) = a + 7 + 2 * j by omega]
      exact hc.1
    · rw [show a + (7 + 2 * j + 1) = a + 7 + 2 * j + 1 by omega]
      exact hc.2
  · obtain ⟨j, rfl⟩ : ∃ j, i = 15 + j := ⟨i - 15, by omega⟩
    rw [← Nat.add_assoc]
    exact w9_o (h6 j (by omega)) (g.rule j (by omega)) (by decide) (w9_o5 (g.rule j (by omega)))
theorem w9_Kp {K : cn_K} {cA : Nat → ClassId} {X : cq_X} {a : Nat} (h : cp_plans K cA a) (g : cq_isPlans X a) : ∀ i, i < 12 → w9_ok K cA X (w9_M X) (a + i) := by
  obtain ⟨h1, h2, h3, h4, h5, h6⟩ := h
  intro i hi
  by_cases e0 : i = 0
  · subst e0
    exact w9_o h1 g.kind (by decide) (w9_o4 g.kind g.t0 g.t1 g.t2)
  by_cases e1 : i = 1
  · subst e1
    exact w9_i (t := 0) h2 g.k1 g.n1 (by decide)
  by_cases e2 : i = 2
  · subst e2
    exact w9_r (t := 6) h3 g.k2 g.n2 (by decide) (fun j hj => g.rt1 j hj)
  by_cases e3 : i < 7
  · obtain ⟨j, rfl⟩ : ∃ j, i = 3 + j := ⟨i - 3, by omega⟩
    rw [← Nat.add_assoc]
    exact w9_i (t := 0) (h4 j (by omega)) (g.r1k j (by omega)) (g.r1n j (by omega)) (by decide)
  by_cases e4 : i = 7
  · subst e4
    exact w9_r (t := 6) h5 g.k7 g.n7 (by decide) (fun j hj => g.rt2 j hj)
  · obtain ⟨j, rfl⟩ : ∃ j, i = 8 + j := ⟨i - 8, by omega⟩
    rw [← Nat.add_assoc]
    exact w9_i (t := 0) (h6 j (by omega)) (g.r2k j (by omega)) (g.r2n j (by omega)) (by decide)
theorem w9_KC {K : cn_K} {cA : Nat → ClassId} {X : cq_X} {a : Nat} (h : cp_clock K cA a) (g : cq_isClock X a) : ∀ i, i < 249 → w9_ok K cA X (w9_M X) (a + i) := by
  obtain ⟨h1, h2, h3, h4, h5, h6, h7, h8, h9, h10⟩ := h
  intro i hi
  by_cases e0 : i = 0
  · subst e0
    exact w9_o h1 g.kind (by decide) (w9_o7 g.kind g.t0 g.t1 g.t2 g.t5 g.t6 g.t7 g.t8)
  by_cases e1 : i < 24
  · obtain ⟨j, rfl⟩ : ∃ j, i = 1 + j := ⟨i - 1, by omega⟩
    rw [← Nat.add_assoc]
    exact w9_Ks h2 g.now j (by omega)
  by_cases e2 : i < 47
  · obtain ⟨j, rfl⟩ : ∃ j, i = 24 + j := ⟨i - 24, by omega⟩
    rw [← Nat.add_assoc]
    exact w9_Ks h3 g.fore j (by omega)
  by_cases e3 : i = 47
  · subst e3
    exact w9_r (t := 5) h4 g.k47 g.n47 (by decide) (fun j hj => g.svt j hj)
  by_cases e4 : i = 48
  · subst e4
    exact w9_r (t := 5) h5 g.k48 g.n48 (by decide) (fun j hj => g.snt j hj)
  by_cases e5 : i = 49
  · subst e5
    exact w9_i (t := 2) h6 g.k49 g.n49 (by decide)
  by_cases e6 : i < 53
  · obtain ⟨j, rfl⟩ : ∃ j, i = 50 + j := ⟨i - 50, by omega⟩
    rw [← Nat.add_assoc]
    exact w9_Kt h7 g.text j (by omega)
  by_cases e7 : i < 65
  · obtain ⟨j, rfl⟩ : ∃ j, i = 53 + j := ⟨i - 53, by omega⟩
    rw [← Nat.add_assoc]
    exact w9_Kp h8 g.plans j (by omega)
  by_cases e8 : i < 203
  · obtain ⟨j, r, hj, hr, rfl⟩ : ∃ j r, j < 6 ∧ r < 23 ∧ i = 65 + 23 * j + r := ⟨(i - 65) / 23, (i - 65) % 23, by omega, by omega, by omega⟩
    rw [show a + (65 + 23 * j + r) = a + 65 + 23 * j + r by omega]
    exact w9_Ks (h9 j hj) (g.sv j hj) r hr
  · obtain ⟨j, r, hj, hr, rfl⟩ : ∃ j r, j < 2 ∧ r < 23 ∧ i = 203 + 23 * j + r := ⟨(i - 203) / 23, (i - 203) % 23, by omega, by omega, by omega⟩
    rw [show a + (203 + 23 * j + r) = a + 203 + 23 * j + r by omega]
    exact w9_Ks (h10 j hj) (g.sn j hj) r hr
/-- all of the clock -/
theorem w9_all {K : cn_K} {cA : Nat → ClassId} {b : Nat} (h : cp_clock K cA b) : ∀ a, (w9_X b).1 a ≠ 0 → w9_ok K cA (w9_X b) (w9_M (w9_X b)) a := by
  intro a ha
  obtain ⟨i, hi, rfl⟩ := w9_X_in ha
  exact w9_KC h (w9_clock b) i hi
def w9_S : as_T := (fun _ => 0, fun _ _ => 0, 0, fun _ _ => 0, fun _ => 0, fun _ => 0, 0)
theorem w9_as : as_ok w9_S 0 := ⟨⟨by decide, by decide, by decide, fun c hc => absurd hc (Nat.not_lt_zero _), fun r hr => absurd hr (Nat.not_lt_zero _), fun i hi => absurd hi (Nat.not_lt_zero _), by decide, by decide, by decide⟩, fun i hi => absurd hi (Nat.not_lt_zero _), fun i _ h => absurd (show (0 : Nat) = 1 from h) (by decide), fun j hj => absurd hj (Nat.not_lt_zero _), by decide, by decide, fun i _ => by show 0 ≤ 1; decide⟩
theorem w9_ck (b : Nat) : ck (w9_M (w9_X b)) b w9_S := by
  have z : ∀ a k, k ≠ 7 → w9_M (w9_X b) a k = 0 := fun a k h => if_neg (fun q => h q.2)
  have z2 : ∀ k, w9_M (w9_X b) (b + 1) k = 0 := fun k => if_neg (fun q => by have := (w9_clock b).now.kind; omega)
  have hb : ∀ a, cr_bool (w9_M (w9_X b)) a := fun a => ⟨fun c _ => ⟨.inl (z _ _ (by decide)), .inl (z _ _ (by decide))⟩, fun r _ => .inl (z _ _ (by decide))⟩
  exact ⟨⟨⟨z2 _, z2 _, z2 _, z2 _, z2 _, z2 _, z2 _, z2 _⟩, fun c hc => absurd hc (Nat.not_lt_zero _), fun r hr => absurd hr (Nat.not_lt_zero _), ⟨z _ _ (by decide), 0, by decide, z _ _ (by decide), fun i hi => absurd hi (Nat.not_lt_zero _)⟩, hb _⟩, ⟨0, by decide, z _ _ (by decide), z _ _ (by decide), fun i hi => absurd hi (Nat.not_lt_zero _)⟩, ⟨hb _, fun i _ => hb _, fun i _ => hb _⟩, fun i hi => ⟨z _ _ (by omega), fun h => absurd (show (0 : Nat) = 1 from h) (by decide)⟩, ⟨z _ _ (by decide), fun j hj => absurd hj (Nat.not_lt_zero _)⟩⟩
