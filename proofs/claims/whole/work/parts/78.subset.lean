/-! PURE, 19b: one check of subsets -/
theorem subI2 : ∀ S, S < 256 → ∀ H, H < 256 → decide ((nI S &&& (nI H ^^^ (-1 : Int32))) = 0) = decide (S &&& H = S) := by decide +kernel
