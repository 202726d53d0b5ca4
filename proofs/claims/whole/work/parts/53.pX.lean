theorem dbl_ok : ∀ c s : Nat, 1 ≤ c → c ≤ 24 → s ≤ 85 * c → okD (FP.ddiv (FP.i2d (nI s)) (FP.i2d (100 * nI c))) = true := sorry
theorem flt_ok : ∀ c s : Nat, 1 ≤ c → c ≤ 24 → s ≤ 9 * c → okF (FP.fdiv (FP.i2f (nI s)) (FP.i2f (nI c))) = true := sorry
theorem okF0 : okF FP.fconst0 = true := by decide +kernel
theorem okD0 : okD FP.dconst0 = true := by decide +kernel
