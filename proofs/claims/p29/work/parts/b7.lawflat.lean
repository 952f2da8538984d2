/-! the words of the start that stand beside the tables -/
def w9_fl : List Cond := flatC (Jvm.Cond.and given_1 narrow_1)
theorem w9_fls {args : Array Value} {s : State} (h : (Jvm.Cond.and given_1 narrow_1).before args s = true) : ∀ w ∈ w9_fl, w.before args s = true := flat_of_before _ h
theorem w9_t1 : ∀ q ∈ cq_tx, q.2.2.2.1 < 2 ^ 31 := by decide +kernel
theorem w9_t2 : ∀ q ∈ cq_tx, Cond.exactly (.string q.1 q.2.1) "java/lang/String" ∈ w9_fl := by decide +kernel
theorem w9_t3 : ∀ q ∈ cq_tx, Cond.eq (.field (.string q.1 q.2.1) "java/lang/String" "coder" "B") (.int 0) ∈ w9_fl := by decide +kernel
theorem w9_t4 : ∀ q ∈ cq_tx, Cond.arrayOf (.field (.string q.1 q.2.1) "java/lang/String" "value" "[B") .byte ∈ w9_fl := by decide +kernel
theorem w9_t5 : ∀ q ∈ cq_tx, Cond.eq (.length (.field (.string q.1 q.2.1) "java/lang/String" "value" "[B")) (.int (Int32.ofNat q.2.2.2.1)) ∈ w9_fl := by decide +kernel
theorem w9_t6 : ∀ q ∈ cq_tx, ∀ j, j < q.2.2.2.1 → Cond.eq (.elem (.field (.string q.1 q.2.1) "java/lang/String" "value" "[B") (.int (Int32.ofNat j))) (.int (q.2.2.2.2.getD j 0)) ∈ w9_fl := by decide +kernel
theorem w9_s2 : ∀ q ∈ cq_sr, Cond.exactly (.string q.1 q.2.1) "java/lang/String" ∈ w9_fl := by decide +kernel
theorem w9_nk : ∀ q ∈ cq_nk, Cond.not (.castable q.1 q.2) ∈ w9_fl := by decide +kernel
theorem w9_ru : Cond.isRef (.static Bundle.tN "UNASSIGNED_STACK" Bundle.steD) ∈ w9_fl := by decide +kernel
theorem w9_rp : Cond.isRef (.static Bundle.tN "SUPPRESSED_SENTINEL" Bundle.listD) ∈ w9_fl := by decide +kernel
theorem w9_rf : Cond.isRef (.static "jdk/internal/util/Preconditions" "SIOOBE_FORMATTER" "Ljava/util/function/BiFunction;") ∈ w9_fl := by decide +kernel
theorem w9_rc : Cond.eq (.static "java/lang/String" "COMPACT_STRINGS" "Z") (.int 1) ∈ w9_fl := by decide +kernel
