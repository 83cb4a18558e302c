theorem law_ok (xs : Nat → Int32) (L : Nat) (hL : L ≤ 3072) : f_law xs L u_0 = some 1 := by
  sorry
