/-! THE PURE CLAIM: to be proved -/
theorem pure_law (L : Nat) (xs : Nat → Int32) (hL : L ≤ 3584) : ∃ hf, zc 323 [zR (some 1000001)] (zh0 L xs) = some (zI 1, hf) ∧ hN hf ≤ 600000 ∧ hS hf ≤ 7302250 := by
  sorry
