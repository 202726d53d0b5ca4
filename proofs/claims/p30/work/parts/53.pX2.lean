/-! PURE: the mean's bits, case by case -/
theorem ckF_1 : ckF 1 = true := by decide +kernel
theorem ckF_2 : ckF 2 = true := by decide +kernel
theorem ckF_3 : ckF 3 = true := by decide +kernel
theorem ckF_4 : ckF 4 = true := by decide +kernel
theorem ckF_5 : ckF 5 = true := by decide +kernel
theorem ckF_6 : ckF 6 = true := by decide +kernel
theorem ckF_7 : ckF 7 = true := by decide +kernel
theorem ckF_8 : ckF 8 = true := by decide +kernel
theorem ckF_9 : ckF 9 = true := by decide +kernel
theorem ckF_10 : ckF 10 = true := by decide +kernel
theorem ckF_11 : ckF 11 = true := by decide +kernel
theorem ckF_12 : ckF 12 = true := by decide +kernel
theorem ckF_13 : ckF 13 = true := by decide +kernel
theorem ckF_14 : ckF 14 = true := by decide +kernel
theorem ckF_15 : ckF 15 = true := by decide +kernel
theorem ckF_16 : ckF 16 = true := by decide +kernel
theorem ckF_17 : ckF 17 = true := by decide +kernel
theorem ckF_18 : ckF 18 = true := by decide +kernel
theorem ckF_19 : ckF 19 = true := by decide +kernel
theorem ckF_20 : ckF 20 = true := by decide +kernel
theorem ckF_21 : ckF 21 = true := by decide +kernel
theorem ckF_22 : ckF 22 = true := by decide +kernel
theorem ckF_23 : ckF 23 = true := by decide +kernel
theorem ckF_24 : ckF 24 = true := by decide +kernel
theorem ckF_all (c : Nat) (h1 : 1 ≤ c) (h2 : c ≤ 24) : ckF c = true := by
  rcases (show c = 1 ∨ c = 2 ∨ c = 3 ∨ c = 4 ∨ c = 5 ∨ c = 6 ∨ c = 7 ∨ c = 8 ∨ c = 9 ∨ c = 10 ∨ c = 11 ∨ c = 12 ∨ c = 13 ∨ c = 14 ∨ c = 15 ∨ c = 16 ∨ c = 17 ∨ c = 18 ∨ c = 19 ∨ c = 20 ∨ c = 21 ∨ c = 22 ∨ c = 23 ∨ c = 24 by omega) with rfl | rfl | rfl | rfl | rfl | rfl | rfl | rfl | rfl | rfl | rfl | rfl | rfl | rfl | rfl | rfl | rfl | rfl | rfl | rfl | rfl | rfl | rfl | rfl
  · exact ckF_1
  · exact ckF_2
  · exact ckF_3
  · exact ckF_4
  · exact ckF_5
  · exact ckF_6
  · exact ckF_7
  · exact ckF_8
  · exact ckF_9
  · exact ckF_10
  · exact ckF_11
  · exact ckF_12
  · exact ckF_13
  · exact ckF_14
  · exact ckF_15
  · exact ckF_16
  · exact ckF_17
  · exact ckF_18
  · exact ckF_19
  · exact ckF_20
  · exact ckF_21
  · exact ckF_22
  · exact ckF_23
  · exact ckF_24
theorem flt_ok (c s : Nat) (h1 : 1 ≤ c) (h2 : c ≤ 24) (h3 : s ≤ 9 * c) : okF (FP.fdiv (FP.i2f (nI s)) (FP.i2f (nI c))) = true := allN_at (ckF_all c h1 h2) s (by omega)
theorem okF0 : okF FP.fconst0 = true := by decide +kernel
theorem okD0 : okD FP.dconst0 = true := by decide +kernel
