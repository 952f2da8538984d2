/-! what an object is, as places of a shape (out of a short program) -/
def cq_isRule (X : cq_X) (a : Nat) : Prop := X.1 a = 5
theorem cq_isRule.kind {X : cq_X} {a : Nat} (h : cq_isRule X a) : X.1 a = 5 := h
def cq_isCord (X : cq_X) (a : Nat) : Prop := X.1 a = 2 ∧ X.2.2 a 0 = a + 1 ∧ X.1 (a + 1) = 10 ∧ X.2.1 (a + 1) = 6
theorem cq_isCord.kind {X : cq_X} {a : Nat} (h : cq_isCord X a) : X.1 a = 2 := h.1
theorem cq_isCord.t0 {X : cq_X} {a : Nat} (h : cq_isCord X a) : X.2.2 a 0 = a + 1 := h.2.1
theorem cq_isCord.k1 {X : cq_X} {a : Nat} (h : cq_isCord X a) : X.1 (a + 1) = 10 := h.2.2.1
theorem cq_isCord.n1 {X : cq_X} {a : Nat} (h : cq_isCord X a) : X.2.1 (a + 1) = 6 := h.2.2.2
def cq_isBook (X : cq_X) (a : Nat) : Prop := X.1 a = 1 ∧ X.2.2 a 0 = a + 1 ∧ X.1 (a + 1) = 10 ∧ X.2.1 (a + 1) = 8 ∧ X.2.2 a 1 = a + 2 ∧ X.1 (a + 2) = 10 ∧ X.2.1 (a + 2) = 8 ∧ X.2.2 a 2 = a + 3 ∧ X.1 (a + 3) = 10 ∧ X.2.1 (a + 3) = 8
theorem cq_isBook.kind {X : cq_X} {a : Nat} (h : cq_isBook X a) : X.1 a = 1 := h.1
theorem cq_isBook.t0 {X : cq_X} {a : Nat} (h : cq_isBook X a) : X.2.2 a 0 = a + 1 := h.2.1
theorem cq_isBook.k1 {X : cq_X} {a : Nat} (h : cq_isBook X a) : X.1 (a + 1) = 10 := h.2.2.1
theorem cq_isBook.n1 {X : cq_X} {a : Nat} (h : cq_isBook X a) : X.2.1 (a + 1) = 8 := h.2.2.2.1
theorem cq_isBook.t1 {X : cq_X} {a : Nat} (h : cq_isBook X a) : X.2.2 a 1 = a + 2 := h.2.2.2.2.1
theorem cq_isBook.k2 {X : cq_X} {a : Nat} (h : cq_isBook X a) : X.1 (a + 2) = 10 := h.2.2.2.2.2.1
theorem cq_isBook.n2 {X : cq_X} {a : Nat} (h : cq_isBook X a) : X.2.1 (a + 2) = 8 := h.2.2.2.2.2.2.1
theorem cq_isBook.t2 {X : cq_X} {a : Nat} (h : cq_isBook X a) : X.2.2 a 2 = a + 3 := h.2.2.2.2.2.2.2.1
theorem cq_isBook.k3 {X : cq_X} {a : Nat} (h : cq_isBook X a) : X.1 (a + 3) = 10 := h.2.2.2.2.2.2.2.2.1
theorem cq_isBook.n3 {X : cq_X} {a : Nat} (h : cq_isBook X a) : X.2.1 (a + 3) = 8 := h.2.2.2.2.2.2.2.2.2
def cq_isState (X : cq_X) (a : Nat) : Prop := X.1 a = 6 ∧ X.2.2 a 0 = a + 1 ∧ X.1 (a + 1) = 13 ∧ X.2.1 (a + 1) = 4 ∧ X.2.2 a 2 = a + 2 ∧ X.1 (a + 2) = 14 ∧ X.2.1 (a + 2) = 8 ∧ X.2.2 a 4 = a + 3 ∧ cq_isBook X (a + 3) ∧ (∀ j, j < 4 → X.2.2 (a + 1) j = a + 7 + 2 * j) ∧ (∀ j, j < 4 → cq_isCord X (a + 7 + 2 * j)) ∧ (∀ j, j < 8 → X.2.2 (a + 2) j = a + 15 + j) ∧ (∀ j, j < 8 → cq_isRule X (a + 15 + j))
theorem cq_isState.kind {X : cq_X} {a : Nat} (h : cq_isState X a) : X.1 a = 6 := h.1
theorem cq_isState.t0 {X : cq_X} {a : Nat} (h : cq_isState X a) : X.2.2 a 0 = a + 1 := h.2.1
theorem cq_isState.k1 {X : cq_X} {a : Nat} (h : cq_isState X a) : X.1 (a + 1) = 13 := h.2.2.1
theorem cq_isState.n1 {X : cq_X} {a : Nat} (h : cq_isState X a) : X.2.1 (a + 1) = 4 := h.2.2.2.1
theorem cq_isState.t2 {X : cq_X} {a : Nat} (h : cq_isState X a) : X.2.2 a 2 = a + 2 := h.2.2.2.2.1
theorem cq_isState.k2 {X : cq_X} {a : Nat} (h : cq_isState X a) : X.1 (a + 2) = 14 := h.2.2.2.2.2.1
theorem cq_isState.n2 {X : cq_X} {a : Nat} (h : cq_isState X a) : X.2.1 (a + 2) = 8 := h.2.2.2.2.2.2.1
theorem cq_isState.t4 {X : cq_X} {a : Nat} (h : cq_isState X a) : X.2.2 a 4 = a + 3 := h.2.2.2.2.2.2.2.1
theorem cq_isState.book {X : cq_X} {a : Nat} (h : cq_isState X a) : cq_isBook X (a + 3) := h.2.2.2.2.2.2.2.2.1
theorem cq_isState.ct {X : cq_X} {a : Nat} (h : cq_isState X a) : ∀ j, j < 4 → X.2.2 (a + 1) j = a + 7 + 2 * j := h.2.2.2.2.2.2.2.2.2.1
theorem cq_isState.cord {X : cq_X} {a : Nat} (h : cq_isState X a) : ∀ j, j < 4 → cq_isCord X (a + 7 + 2 * j) := h.2.2.2.2.2.2.2.2.2.2.1
theorem cq_isState.rt {X : cq_X} {a : Nat} (h : cq_isState X a) : ∀ j, j < 8 → X.2.2 (a + 2) j = a + 15 + j := h.2.2.2.2.2.2.2.2.2.2.2.1
theorem cq_isState.rule {X : cq_X} {a : Nat} (h : cq_isState X a) : ∀ j, j < 8 → cq_isRule X (a + 15 + j) := h.2.2.2.2.2.2.2.2.2.2.2.2
def cq_isText (X : cq_X) (a : Nat) : Prop := X.1 a = 3 ∧ X.2.2 a 0 = a + 1 ∧ X.1 (a + 1) = 11 ∧ X.2.1 (a + 1) = 60 ∧ X.2.2 a 4 = a + 2 ∧ X.1 (a + 2) = 10 ∧ X.2.1 (a + 2) = 6
theorem cq_isText.kind {X : cq_X} {a : Nat} (h : cq_isText X a) : X.1 a = 3 := h.1
theorem cq_isText.t0 {X : cq_X} {a : Nat} (h : cq_isText X a) : X.2.2 a 0 = a + 1 := h.2.1
theorem cq_isText.k1 {X : cq_X} {a : Nat} (h : cq_isText X a) : X.1 (a + 1) = 11 := h.2.2.1
theorem cq_isText.n1 {X : cq_X} {a : Nat} (h : cq_isText X a) : X.2.1 (a + 1) = 60 := h.2.2.2.1
theorem cq_isText.t4 {X : cq_X} {a : Nat} (h : cq_isText X a) : X.2.2 a 4 = a + 2 := h.2.2.2.2.1
theorem cq_isText.k2 {X : cq_X} {a : Nat} (h : cq_isText X a) : X.1 (a + 2) = 10 := h.2.2.2.2.2.1
theorem cq_isText.n2 {X : cq_X} {a : Nat} (h : cq_isText X a) : X.2.1 (a + 2) = 6 := h.2.2.2.2.2.2
def cq_isPlans (X : cq_X) (a : Nat) : Prop := X.1 a = 4 ∧ X.2.2 a 0 = a + 1 ∧ X.1 (a + 1) = 10 ∧ X.2.1 (a + 1) = 1081 ∧ X.2.2 a 1 = a + 2 ∧ X.1 (a + 2) = 16 ∧ X.2.1 (a + 2) = 4 ∧ X.2.2 a 2 = a + 7 ∧ X.1 (a + 7) = 16 ∧ X.2.1 (a + 7) = 4 ∧ (∀ j, j < 4 → X.2.2 (a + 2) j = a + 3 + j) ∧ (∀ j, j < 4 → X.1 (a + 3 + j) = 10) ∧ (∀ j, j < 4 → X.2.1 (a + 3 + j) = 3) ∧ (∀ j, j < 4 → X.2.2 (a + 7) j = a + 8 + j) ∧ (∀ j, j < 4 → X.1 (a + 8 + j) = 10) ∧ (∀ j, j < 4 → X.2.1 (a + 8 + j) = 3)
theorem cq_isPlans.kind {X : cq_X} {a : Nat} (h : cq_isPlans X a) : X.1 a = 4 := h.1
theorem cq_isPlans.t0 {X : cq_X} {a : Nat} (h : cq_isPlans X a) : X.2.2 a 0 = a + 1 := h.2.1
theorem cq_isPlans.k1 {X : cq_X} {a : Nat} (h : cq_isPlans X a) : X.1 (a + 1) = 10 := h.2.2.1
theorem cq_isPlans.n1 {X : cq_X} {a : Nat} (h : cq_isPlans X a) : X.2.1 (a + 1) = 1081 := h.2.2.2.1
theorem cq_isPlans.t1 {X : cq_X} {a : Nat} (h : cq_isPlans X a) : X.2.2 a 1 = a + 2 := h.2.2.2.2.1
theorem cq_isPlans.k2 {X : cq_X} {a : Nat} (h : cq_isPlans X a) : X.1 (a + 2) = 16 := h.2.2.2.2.2.1
theorem cq_isPlans.n2 {X : cq_X} {a : Nat} (h : cq_isPlans X a) : X.2.1 (a + 2) = 4 := h.2.2.2.2.2.2.1
theorem cq_isPlans.t2 {X : cq_X} {a : Nat} (h : cq_isPlans X a) : X.2.2 a 2 = a + 7 := h.2.2.2.2.2.2.2.1
theorem cq_isPlans.k7 {X : cq_X} {a : Nat} (h : cq_isPlans X a) : X.1 (a + 7) = 16 := h.2.2.2.2.2.2.2.2.1
theorem cq_isPlans.n7 {X : cq_X} {a : Nat} (h : cq_isPlans X a) : X.2.1 (a + 7) = 4 := h.2.2.2.2.2.2.2.2.2.1
theorem cq_isPlans.rt1 {X : cq_X} {a : Nat} (h : cq_isPlans X a) : ∀ j, j < 4 → X.2.2 (a + 2) j = a + 3 + j := h.2.2.2.2.2.2.2.2.2.2.1
theorem cq_isPlans.r1k {X : cq_X} {a : Nat} (h : cq_isPlans X a) : ∀ j, j < 4 → X.1 (a + 3 + j) = 10 := h.2.2.2.2.2.2.2.2.2.2.2.1
theorem cq_isPlans.r1n {X : cq_X} {a : Nat} (h : cq_isPlans X a) : ∀ j, j < 4 → X.2.1 (a + 3 + j) = 3 := h.2.2.2.2.2.2.2.2.2.2.2.2.1
theorem cq_isPlans.rt2 {X : cq_X} {a : Nat} (h : cq_isPlans X a) : ∀ j, j < 4 → X.2.2 (a + 7) j = a + 8 + j := h.2.2.2.2.2.2.2.2.2.2.2.2.2.1
theorem cq_isPlans.r2k {X : cq_X} {a : Nat} (h : cq_isPlans X a) : ∀ j, j < 4 → X.1 (a + 8 + j) = 10 := h.2.2.2.2.2.2.2.2.2.2.2.2.2.2.1
theorem cq_isPlans.r2n {X : cq_X} {a : Nat} (h : cq_isPlans X a) : ∀ j, j < 4 → X.2.1 (a + 8 + j) = 3 := h.2.2.2.2.2.2.2.2.2.2.2.2.2.2.2
def cq_isClock (X : cq_X) (a : Nat) : Prop := X.1 a = 7 ∧ X.2.2 a 0 = a + 1 ∧ cq_isState X (a + 1) ∧ X.2.2 a 1 = a + 24 ∧ cq_isState X (a + 24) ∧ X.2.2 a 2 = a + 47 ∧ X.1 (a + 47) = 15 ∧ X.2.1 (a + 47) = 6 ∧ X.2.2 a 5 = a + 48 ∧ X.1 (a + 48) = 15 ∧ X.2.1 (a + 48) = 2 ∧ X.2.2 a 6 = a + 49 ∧ X.1 (a + 49) = 12 ∧ X.2.1 (a + 49) = 2 ∧ X.2.2 a 7 = a + 50 ∧ cq_isText X (a + 50) ∧ X.2.2 a 8 = a + 53 ∧ cq_isPlans X (a + 53) ∧ (∀ j, j < 6 → X.2.2 (a + 47) j = a + 65 + 23 * j) ∧ (∀ j, j < 6 → cq_isState X (a + 65 + 23 * j)) ∧ (∀ j, j < 2 → X.2.2 (a + 48) j = a + 203 + 23 * j) ∧ (∀ j, j < 2 → cq_isState X (a + 203 + 23 * j))
theorem cq_isClock.kind {X : cq_X} {a : Nat} (h : cq_isClock X a) : X.1 a = 7 := h.1
theorem cq_isClock.t0 {X : cq_X} {a : Nat} (h : cq_isClock X a) : X.2.2 a 0 = a + 1 := h.2.1
theorem cq_isClock.now {X : cq_X} {a : Nat} (h : cq_isClock X a) : cq_isState X (a + 1) := h.2.2.1
theorem cq_isClock.t1 {X : cq_X} {a : Nat} (h : cq_isClock X a) : X.2.2 a 1 = a + 24 := h.2.2.2.1
theorem cq_isClock.fore {X : cq_X} {a : Nat} (h : cq_isClock X a) : cq_isState X (a + 24) := h.2.2.2.2.1
theorem cq_isClock.t2 {X : cq_X} {a : Nat} (h : cq_isClock X a) : X.2.2 a 2 = a + 47 := h.2.2.2.2.2.1
theorem cq_isClock.k47 {X : cq_X} {a : Nat} (h : cq_isClock X a) : X.1 (a + 47) = 15 := h.2.2.2.2.2.2.1
theorem cq_isClock.n47 {X : cq_X} {a : Nat} (h : cq_isClock X a) : X.2.1 (a + 47) = 6 := h.2.2.2.2.2.2.2.1
theorem cq_isClock.t5 {X : cq_X} {a : Nat} (h : cq_isClock X a) : X.2.2 a 5 = a + 48 := h.2.2.2.2.2.2.2.2.1
theorem cq_isClock.k48 {X : cq_X} {a : Nat} (h : cq_isClock X a) : X.1 (a + 48) = 15 := h.2.2.2.2.2.2.2.2.2.1
theorem cq_isClock.n48 {X : cq_X} {a : Nat} (h : cq_isClock X a) : X.2.1 (a + 48) = 2 := h.2.2.2.2.2.2.2.2.2.2.1
theorem cq_isClock.t6 {X : cq_X} {a : Nat} (h : cq_isClock X a) : X.2.2 a 6 = a + 49 := h.2.2.2.2.2.2.2.2.2.2.2.1
theorem cq_isClock.k49 {X : cq_X} {a : Nat} (h : cq_isClock X a) : X.1 (a + 49) = 12 := h.2.2.2.2.2.2.2.2.2.2.2.2.1
theorem cq_isClock.n49 {X : cq_X} {a : Nat} (h : cq_isClock X a) : X.2.1 (a + 49) = 2 := h.2.2.2.2.2.2.2.2.2.2.2.2.2.1
theorem cq_isClock.t7 {X : cq_X} {a : Nat} (h : cq_isClock X a) : X.2.2 a 7 = a + 50 := h.2.2.2.2.2.2.2.2.2.2.2.2.2.2.1
theorem cq_isClock.text {X : cq_X} {a : Nat} (h : cq_isClock X a) : cq_isText X (a + 50) := h.2.2.2.2.2.2.2.2.2.2.2.2.2.2.2.1
theorem cq_isClock.t8 {X : cq_X} {a : Nat} (h : cq_isClock X a) : X.2.2 a 8 = a + 53 := h.2.2.2.2.2.2.2.2.2.2.2.2.2.2.2.2.1
theorem cq_isClock.plans {X : cq_X} {a : Nat} (h : cq_isClock X a) : cq_isPlans X (a + 53) := h.2.2.2.2.2.2.2.2.2.2.2.2.2.2.2.2.2.1
theorem cq_isClock.svt {X : cq_X} {a : Nat} (h : cq_isClock X a) : ∀ j, j < 6 → X.2.2 (a + 47) j = a + 65 + 23 * j := h.2.2.2.2.2.2.2.2.2.2.2.2.2.2.2.2.2.2.1
theorem cq_isClock.sv {X : cq_X} {a : Nat} (h : cq_isClock X a) : ∀ j, j < 6 → cq_isState X (a + 65 + 23 * j) := h.2.2.2.2.2.2.2.2.2.2.2.2.2.2.2.2.2.2.2.1
theorem cq_isClock.snt {X : cq_X} {a : Nat} (h : cq_isClock X a) : ∀ j, j < 2 → X.2.2 (a + 48) j = a + 203 + 23 * j := h.2.2.2.2.2.2.2.2.2.2.2.2.2.2.2.2.2.2.2.2.1
theorem cq_isClock.sn {X : cq_X} {a : Nat} (h : cq_isClock X a) : ∀ j, j < 2 → cq_isState X (a + 203 + 23 * j) := h.2.2.2.2.2.2.2.2.2.2.2.2.2.2.2.2.2.2.2.2.2
def cq_isModel (X : cq_X) (a : Nat) : Prop := X.1 a = 8 ∧ X.2.2 a 0 = a + 1 ∧ X.1 (a + 1) = 10 ∧ X.2.1 (a + 1) = 109 ∧ X.2.2 a 1 = a + 2 ∧ X.1 (a + 2) = 10 ∧ X.2.1 (a + 2) = 654 ∧ X.2.2 a 3 = a + 3 ∧ X.1 (a + 3) = 10 ∧ X.2.1 (a + 3) = 218 ∧ X.2.2 a 4 = a + 4 ∧ X.1 (a + 4) = 12 ∧ X.2.1 (a + 4) = 2 ∧ X.2.2 a 5 = a + 5 ∧ X.1 (a + 5) = 10 ∧ X.2.1 (a + 5) = 109 ∧ X.2.2 a 7 = a + 6 ∧ X.1 (a + 6) = 10 ∧ X.2.1 (a + 6) = 60 ∧ X.2.2 a 12 = a + 7 ∧ X.1 (a + 7) = 10 ∧ X.2.1 (a + 7) = 16 ∧ X.2.2 a 13 = a + 8 ∧ X.1 (a + 8) = 10 ∧ X.2.1 (a + 8) = 16 ∧ X.2.2 a 14 = a + 9 ∧ X.1 (a + 9) = 10 ∧ X.2.1 (a + 9) = 16 ∧ X.2.2 a 15 = a + 10 ∧ X.1 (a + 10) = 10 ∧ X.2.1 (a + 10) = 16 ∧ X.2.2 a 16 = a + 11 ∧ X.1 (a + 11) = 10 ∧ X.2.1 (a + 11) = 96 ∧ X.2.2 a 17 = a + 12 ∧ X.1 (a + 12) = 10 ∧ X.2.1 (a + 12) = 1081 ∧ X.2.2 a 18 = a + 13 ∧ X.1 (a + 13) = 10 ∧ X.2.1 (a + 13) = 5760 ∧ X.2.2 a 20 = a + 14 ∧ X.1 (a + 14) = 10 ∧ X.2.1 (a + 14) = 5760
theorem cq_isModel.kind {X : cq_X} {a : Nat} (h : cq_isModel X a) : X.1 a = 8 := h.1
theorem cq_isModel.t0 {X : cq_X} {a : Nat} (h : cq_isModel X a) : X.2.2 a 0 = a + 1 := h.2.1
theorem cq_isModel.k1 {X : cq_X} {a : Nat} (h : cq_isModel X a) : X.1 (a + 1) = 10 := h.2.2.1
theorem cq_isModel.n1 {X : cq_X} {a : Nat} (h : cq_isModel X a) : X.2.1 (a + 1) = 109 := h.2.2.2.1
theorem cq_isModel.t1 {X : cq_X} {a : Nat} (h : cq_isModel X a) : X.2.2 a 1 = a + 2 := h.2.2.2.2.1
theorem cq_isModel.k2 {X : cq_X} {a : Nat} (h : cq_isModel X a) : X.1 (a + 2) = 10 := h.2.2.2.2.2.1
theorem cq_isModel.n2 {X : cq_X} {a : Nat} (h : cq_isModel X a) : X.2.1 (a + 2) = 654 := h.2.2.2.2.2.2.1
theorem cq_isModel.t3 {X : cq_X} {a : Nat} (h : cq_isModel X a) : X.2.2 a 3 = a + 3 := h.2.2.2.2.2.2.2.1
theorem cq_isModel.k3 {X : cq_X} {a : Nat} (h : cq_isModel X a) : X.1 (a + 3) = 10 := h.2.2.2.2.2.2.2.2.1
theorem cq_isModel.n3 {X : cq_X} {a : Nat} (h : cq_isModel X a) : X.2.1 (a + 3) = 218 := h.2.2.2.2.2.2.2.2.2.1
theorem cq_isModel.t4 {X : cq_X} {a : Nat} (h : cq_isModel X a) : X.2.2 a 4 = a + 4 := h.2.2.2.2.2.2.2.2.2.2.1
theorem cq_isModel.k4 {X : cq_X} {a : Nat} (h : cq_isModel X a) : X.1 (a + 4) = 12 := h.2.2.2.2.2.2.2.2.2.2.2.1
theorem cq_isModel.n4 {X : cq_X} {a : Nat} (h : cq_isModel X a) : X.2.1 (a + 4) = 2 := h.2.2.2.2.2.2.2.2.2.2.2.2.1
theorem cq_isModel.t5 {X : cq_X} {a : Nat} (h : cq_isModel X a) : X.2.2 a 5 = a + 5 := h.2.2.2.2.2.2.2.2.2.2.2.2.2.1
theorem cq_isModel.k5 {X : cq_X} {a : Nat} (h : cq_isModel X a) : X.1 (a + 5) = 10 := h.2.2.2.2.2.2.2.2.2.2.2.2.2.2.1
theorem cq_isModel.n5 {X : cq_X} {a : Nat} (h : cq_isModel X a) : X.2.1 (a + 5) = 109 := h.2.2.2.2.2.2.2.2.2.2.2.2.2.2.2.1
theorem cq_isModel.t7 {X : cq_X} {a : Nat} (h : cq_isModel X a) : X.2.2 a 7 = a + 6 := h.2.2.2.2.2.2.2.2.2.2.2.2.2.2.2.2.1
theorem cq_isModel.k6 {X : cq_X} {a : Nat} (h : cq_isModel X a) : X.1 (a + 6) = 10 := h.2.2.2.2.2.2.2.2.2.2.2.2.2.2.2.2.2.1
theorem cq_isModel.n6 {X : cq_X} {a : Nat} (h : cq_isModel X a) : X.2.1 (a + 6) = 60 := h.2.2.2.2.2.2.2.2.2.2.2.2.2.2.2.2.2.2.1
theorem cq_isModel.t12 {X : cq_X} {a : Nat} (h : cq_isModel X a) : X.2.2 a 12 = a + 7 := h.2.2.2.2.2.2.2.2.2.2.2.2.2.2.2.2.2.2.2.1
theorem cq_isModel.k7 {X : cq_X} {a : Nat} (h : cq_isModel X a) : X.1 (a + 7) = 10 := h.2.2.2.2.2.2.2.2.2.2.2.2.2.2.2.2.2.2.2.2.1
theorem cq_isModel.n7 {X : cq_X} {a : Nat} (h : cq_isModel X a) : X.2.1 (a + 7) = 16 := h.2.2.2.2.2.2.2.2.2.2.2.2.2.2.2.2.2.2.2.2.2.1
theorem cq_isModel.t13 {X : cq_X} {a : Nat} (h : cq_isModel X a) : X.2.2 a 13 = a + 8 := h.2.2.2.2.2.2.2.2.2.2.2.2.2.2.2.2.2.2.2.2.2.2.1
theorem cq_isModel.k8 {X : cq_X} {a : Nat} (h : cq_isModel X a) : X.1 (a + 8) = 10 := h.2.2.2.2.2.2.2.2.2.2.2.2.2.2.2.2.2.2.2.2.2.2.2.1
theorem cq_isModel.n8 {X : cq_X} {a : Nat} (h : cq_isModel X a) : X.2.1 (a + 8) = 16 := h.2.2.2.2.2.2.2.2.2.2.2.2.2.2.2.2.2.2.2.2.2.2.2.2.1
theorem cq_isModel.t14 {X : cq_X} {a : Nat} (h : cq_isModel X a) : X.2.2 a 14 = a + 9 := h.2.2.2.2.2.2.2.2.2.2.2.2.2.2.2.2.2.2.2.2.2.2.2.2.2.1
theorem cq_isModel.k9 {X : cq_X} {a : Nat} (h : cq_isModel X a) : X.1 (a + 9) = 10 := h.2.2.2.2.2.2.2.2.2.2.2.2.2.2.2.2.2.2.2.2.2.2.2.2.2.2.1
theorem cq_isModel.n9 {X : cq_X} {a : Nat} (h : cq_isModel X a) : X.2.1 (a + 9) = 16 := h.2.2.2.2.2.2.2.2.2.2.2.2.2.2.2.2.2.2.2.2.2.2.2.2.2.2.2.1
theorem cq_isModel.t15 {X : cq_X} {a : Nat} (h : cq_isModel X a) : X.2.2 a 15 = a + 10 := h.2.2.2.2.2.2.2.2.2.2.2.2.2.2.2.2.2.2.2.2.2.2.2.2.2.2.2.2.1
theorem cq_isModel.k10 {X : cq_X} {a : Nat} (h : cq_isModel X a) : X.1 (a + 10) = 10 := h.2.2.2.2.2.2.2.2.2.2.2.2.2.2.2.2.2.2.2.2.2.2.2.2.2.2.2.2.2.1
theorem cq_isModel.n10 {X : cq_X} {a : Nat} (h : cq_isModel X a) : X.2.1 (a + 10) = 16 := h.2.2.2.2.2.2.2.2.2.2.2.2.2.2.2.2.2.2.2.2.2.2.2.2.2.2.2.2.2.2.1
theorem cq_isModel.t16 {X : cq_X} {a : Nat} (h : cq_isModel X a) : X.2.2 a 16 = a + 11 := h.2.2.2.2.2.2.2.2.2.2.2.2.2.2.2.2.2.2.2.2.2.2.2.2.2.2.2.2.2.2.2.1
theorem cq_isModel.k11 {X : cq_X} {a : Nat} (h : cq_isModel X a) : X.1 (a + 11) = 10 := h.2.2.2.2.2.2.2.2.2.2.2.2.2.2.2.2.2.2.2.2.2.2.2.2.2.2.2.2.2.2.2.2.1
theorem cq_isModel.n11 {X : cq_X} {a : Nat} (h : cq_isModel X a) : X.2.1 (a + 11) = 96 := h.2.2.2.2.2.2.2.2.2.2.2.2.2.2.2.2.2.2.2.2.2.2.2.2.2.2.2.2.2.2.2.2.2.1
theorem cq_isModel.t17 {X : cq_X} {a : Nat} (h : cq_isModel X a) : X.2.2 a 17 = a + 12 := h.2.2.2.2.2.2.2.2.2.2.2.2.2.2.2.2.2.2.2.2.2.2.2.2.2.2.2.2.2.2.2.2.2.2.1
theorem cq_isModel.k12 {X : cq_X} {a : Nat} (h : cq_isModel X a) : X.1 (a + 12) = 10 := h.2.2.2.2.2.2.2.2.2.2.2.2.2.2.2.2.2.2.2.2.2.2.2.2.2.2.2.2.2.2.2.2.2.2.2.1
theorem cq_isModel.n12 {X : cq_X} {a : Nat} (h : cq_isModel X a) : X.2.1 (a + 12) = 1081 := h.2.2.2.2.2.2.2.2.2.2.2.2.2.2.2.2.2.2.2.2.2.2.2.2.2.2.2.2.2.2.2.2.2.2.2.2.1
theorem cq_isModel.t18 {X : cq_X} {a : Nat} (h : cq_isModel X a) : X.2.2 a 18 = a + 13 := h.2.2.2.2.2.2.2.2.2.2.2.2.2.2.2.2.2.2.2.2.2.2.2.2.2.2.2.2.2.2.2.2.2.2.2.2.2.1
theorem cq_isModel.k13 {X : cq_X} {a : Nat} (h : cq_isModel X a) : X.1 (a + 13) = 10 := h.2.2.2.2.2.2.2.2.2.2.2.2.2.2.2.2.2.2.2.2.2.2.2.2.2.2.2.2.2.2.2.2.2.2.2.2.2.2.1
theorem cq_isModel.n13 {X : cq_X} {a : Nat} (h : cq_isModel X a) : X.2.1 (a + 13) = 5760 := h.2.2.2.2.2.2.2.2.2.2.2.2.2.2.2.2.2.2.2.2.2.2.2.2.2.2.2.2.2.2.2.2.2.2.2.2.2.2.2.1
theorem cq_isModel.t20 {X : cq_X} {a : Nat} (h : cq_isModel X a) : X.2.2 a 20 = a + 14 := h.2.2.2.2.2.2.2.2.2.2.2.2.2.2.2.2.2.2.2.2.2.2.2.2.2.2.2.2.2.2.2.2.2.2.2.2.2.2.2.2.1
theorem cq_isModel.k14 {X : cq_X} {a : Nat} (h : cq_isModel X a) : X.1 (a + 14) = 10 := h.2.2.2.2.2.2.2.2.2.2.2.2.2.2.2.2.2.2.2.2.2.2.2.2.2.2.2.2.2.2.2.2.2.2.2.2.2.2.2.2.2.1
theorem cq_isModel.n14 {X : cq_X} {a : Nat} (h : cq_isModel X a) : X.2.1 (a + 14) = 5760 := h.2.2.2.2.2.2.2.2.2.2.2.2.2.2.2.2.2.2.2.2.2.2.2.2.2.2.2.2.2.2.2.2.2.2.2.2.2.2.2.2.2.2
def cq_PI (P : Int32 → cq_M → Prop) : Option Value → cq_M → Prop := fun rv M1 => ∃ r : Int32, rv = some (.int r) ∧ P r M1
def cq_PV (P : cq_M → Prop) : Option Value → cq_M → Prop := fun rv M1 => rv = none ∧ P M1
def cq_PR (P : Nat → cq_M → Prop) : Option Value → cq_M → Prop := fun rv M1 => ∃ a : Nat, rv = some (.ref a) ∧ P a M1
section CQK
variable {p : Program} {l : Launch} {e : Env} {R : Room} {s : State} {m : MethodId} {args : Array Value} {below : List Frame} {meth : Method} {c : Code} {D : va_G} {cA : Nat → ClassId} {X : cq_X} {Bs nL cells slots : Nat} {Q : State → Prop} {pc : Nat} {L : List (Nat × Value)} {st : List Value}
theorem cq_kI {P : Int32 → cq_M → Prop} (h : ∀ (r : Int32) (M1 : cq_M), P r M1 → cq_V p l e R s m args below meth c D cA X Bs nL cells slots Q pc L (.int r :: st) M1) : ∀ (rv : Option Value) (M1 : cq_M), cq_PI P rv M1 → cq_V p l e R s m args below meth c D cA X Bs nL cells slots Q pc L (rv.toList ++ st) M1 := by
  intro rv M1 hp
  obtain ⟨r, rfl, hp⟩ := hp
  exact h r M1 hp
theorem cq_kIp {P : Int32 → Prop} {M : cq_M} (h : ∀ r : Int32, P r → cq_V p l e R s m args below meth c D cA X Bs nL cells slots Q pc L (.int r :: st) M) : ∀ (rv : Option Value) (M1 : cq_M), cq_PI (fun r M1 => P r ∧ M1 = M) rv M1 → cq_V p l e R s m args below meth c D cA X Bs nL cells slots Q pc L (rv.toList ++ st) M1 := by
  intro rv M1 hp
  obtain ⟨r, rfl, hp, rfl⟩ := hp
  exact h r hp
theorem cq_kVp {M : cq_M} (h : cq_V p l e R s m args below meth c D cA X Bs nL cells slots Q pc L st M) : ∀ (rv : Option Value) (M1 : cq_M), cq_PV (fun M1 => M1 = M) rv M1 → cq_V p l e R s m args below meth c D cA X Bs nL cells slots Q pc L (rv.toList ++ st) M1 := by
  intro rv M1 hp
  obtain ⟨rfl, rfl⟩ := hp
  exact h
theorem cq_kV {P : cq_M → Prop} (h : ∀ M1 : cq_M, P M1 → cq_V p l e R s m args below meth c D cA X Bs nL cells slots Q pc L st M1) : ∀ (rv : Option Value) (M1 : cq_M), cq_PV P rv M1 → cq_V p l e R s m args below meth c D cA X Bs nL cells slots Q pc L (rv.toList ++ st) M1 := by
  intro rv M1 hp
  obtain ⟨rfl, hp⟩ := hp
  exact h M1 hp
theorem cq_kR {P : Nat → cq_M → Prop} (h : ∀ (a : Nat) (M1 : cq_M), P a M1 → cq_V p l e R s m args below meth c D cA X Bs nL cells slots Q pc L (.ref a :: st) M1) : ∀ (rv : Option Value) (M1 : cq_M), cq_PR P rv M1 → cq_V p l e R s m args below meth c D cA X Bs nL cells slots Q pc L (rv.toList ++ st) M1 := by
  intro rv M1 hp
  obtain ⟨r, rfl, hp⟩ := hp
  exact h r M1 hp
end CQK
theorem nI_b {a b : Nat} (ha : a < 2147483648) (hb : b < 2147483648) : (nI a ≤ nI b ↔ a ≤ b) ∧ (nI a < nI b ↔ a < b) ∧ (nI a = nI b ↔ a = b) := ⟨nI_leI ha hb, nI_ltI ha hb, nI_eq ha hb⟩
