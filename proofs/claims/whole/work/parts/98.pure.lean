theorem pure_law (L : Nat) (xs : Nat → Int32) (hL : L ≤ 3072) : ∃ M', lawF L xs = some (1, M') := by
  sorry
