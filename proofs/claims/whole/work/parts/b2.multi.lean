/-! multianewarray, of two dimensions. -/
theorem gMul : gMultiLaw := by
  sorry
