noncomputable section
/-- one more hour -/
theorem hr_k {h : Int32} {k : Nat} (hk : k + 1 < 2147483648) : (h + cn (k + 1)) - ci 1 = h + cn k := by
  rw [← cnu hk, ← Int32.add_assoc, Int32.add_sub_cancel]
end
