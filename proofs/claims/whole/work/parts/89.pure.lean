theorem pure_law (xs : Nat → Int32) (Ln : Nat) (h : Ln ≤ 2048) : f_L_law_p18 xs Ln FU 0 σ0 = some () := by
  sorry
