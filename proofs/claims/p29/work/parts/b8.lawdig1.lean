/-! the digits: ones -/
theorem w9_do1 : Cond.arrayOf (.static "java/lang/Integer" "DigitOnes" "[B") .byte ∈ w9_fl := by decide +kernel
theorem w9_do2 : Cond.eq (.length (.static "java/lang/Integer" "DigitOnes" "[B")) (.int (Int32.ofNat 100)) ∈ w9_fl := by decide +kernel
theorem w9_do30 : ∀ j, j < 25 → Cond.eq (.elem (.static "java/lang/Integer" "DigitOnes" "[B") (.int (Int32.ofNat (25 * 0 + j)))) (.int (Int32.ofNat (48 + (25 * 0 + j) % 10))) ∈ w9_fl := by decide +kernel
theorem w9_do31 : ∀ j, j < 25 → Cond.eq (.elem (.static "java/lang/Integer" "DigitOnes" "[B") (.int (Int32.ofNat (25 * 1 + j)))) (.int (Int32.ofNat (48 + (25 * 1 + j) % 10))) ∈ w9_fl := by decide +kernel
theorem w9_do32 : ∀ j, j < 25 → Cond.eq (.elem (.static "java/lang/Integer" "DigitOnes" "[B") (.int (Int32.ofNat (25 * 2 + j)))) (.int (Int32.ofNat (48 + (25 * 2 + j) % 10))) ∈ w9_fl := by decide +kernel
theorem w9_do33 : ∀ j, j < 25 → Cond.eq (.elem (.static "java/lang/Integer" "DigitOnes" "[B") (.int (Int32.ofNat (25 * 3 + j)))) (.int (Int32.ofNat (48 + (25 * 3 + j) % 10))) ∈ w9_fl := by decide +kernel
theorem w9_do3 : ∀ j, j < 100 → Cond.eq (.elem (.static "java/lang/Integer" "DigitOnes" "[B") (.int (Int32.ofNat j))) (.int (Int32.ofNat (48 + j % 10))) ∈ w9_fl := by
  intro j hj
  have h0 : j = 25 * (j / 25) + j % 25 := by omega
  have h1 : j % 25 < 25 := Nat.mod_lt _ (by decide)
  rcases (show j / 25 = 0 ∨ j / 25 = 1 ∨ j / 25 = 2 ∨ j / 25 = 3 by omega) with h | h | h | h
  · have h2 := w9_do30 (j % 25) h1
    rw [show 25 * 0 + j % 25 = j by omega] at h2
    exact h2
  · have h2 := w9_do31 (j % 25) h1
    rw [show 25 * 1 + j % 25 = j by omega] at h2
    exact h2
  · have h2 := w9_do32 (j % 25) h1
    rw [show 25 * 2 + j % 25 = j by omega] at h2
    exact h2
  · have h2 := w9_do33 (j % 25) h1
    rw [show 25 * 3 + j % 25 = j by omega] at h2
    exact h2
