/-! THE START's memory holds the invariant -/
theorem m0_h : M0.1 91 2 = 0 ∧ M0.1 91 24 = 0 ∧ M0.1 91 22 = 0 ∧ M0.1 0 6 = M0.1 91 1 ∧ M0.1 0 4 = M0.1 91 2 ∧ M0.1 0 5 = M0.1 91 22 ∧ M0.1 2 1 = M0.1 91 24 ∧ M0.1 0 7 = M0.1 91 26 := by decide +kernel
theorem m0_y : (∀ k, k < 192 → M0.1 94 k = 0) ∧ (∀ k, k < 36 → M0.1 100 k = 0) ∧ (∀ k, k < 36 → M0.1 101 k = 0) ∧ (∀ k, k < 288 → M0.1 102 k = 0) ∧ (∀ k, k < 480 → M0.1 105 k = 0) ∧ (∀ k, k < 12 → M0.1 110 k = 0) := by decide +kernel
theorem m0_x : (∀ k, k < 12 → M0.1 18 k = 0) ∧ ∀ i, i < 12 → (∀ k, k < 16 → M0.1 (20 + 6 * i) k = 0) ∧ (∀ k, k < 40 → M0.1 (21 + 6 * i) k = 0) ∧ (∀ k, k < 3 → M0.1 (22 + 6 * i) k = 0) ∧ (∀ k, k < 3 → M0.1 (23 + 6 * i) k = 0) ∧ (∀ k, k < 24 → M0.1 (24 + 6 * i) k = 0) := by decide +kernel
theorem m0_b : (∀ k, k < 2000 → M0.1 3 k = 0) ∧ ∀ k, k < 2100 → M0.1 111 k = 0 := by decide +kernel
