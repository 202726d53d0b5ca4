/-! PURE: the start; and the whole law -/
theorem J0 : J z_mu0 := by
  refine ⟨⟨⟨?_, ?_⟩, ?_, ?_, ?_, ?_, ?_, ?_⟩, ⟨fun i => 3 + i, 0, ⟨fun i hi => ⟨(show 3 ≤ 3 + i ∧ 3 + i < 9 by omega), rfl⟩, fun i j _ _ h => by have h2 : 3 + i = 3 + j := h; omega⟩, by decide, rfl, rfl, fun i hi => by omega⟩, fun k hk => ⟨rfl, fun h => absurd rfl h⟩, ⟨0, by decide, rfl, rfl, fun j hj => by omega⟩, Or.inl ⟨rfl, rfl⟩⟩
  · have h : ∀ j, j < 190 → (j < 22 ∨ ¬ (j - 22) % 7 = 4) → V z_mu0 0 j = z_mu0 120 j := by decide +kernel
    intro j hj hn
    refine h j hj ?_
    by_cases h1 : j < 22
    · exact Or.inl h1
    · exact Or.inr (fun q => hn ((j - 22) / 7) (by omega))
  · have h : ∀ t, t < 24 → qmo (V z_mu0 0) t = qmo (z_mu0 120) t := by decide +kernel
    exact h
  · have h : ∀ t, t < 24 → V z_mu0 0 (22 + 7 * t + 4) = qmo (V z_mu0 0) t := by decide +kernel
    exact h
  · have h : ∀ t, t < 24 → (0 ≤ (V z_mu0 0 (22 + 7 * t)).toInt ∧ (V z_mu0 0 (22 + 7 * t)).toInt ≤ 9) ∧ 0 ≤ (V z_mu0 0 (22 + 7 * t + 1)).toInt ∧ (V z_mu0 0 (22 + 7 * t + 1)).toInt ≤ 85 := by decide +kernel
    exact h
  · decide +kernel
  · decide +kernel
  · decide +kernel
  · have h : ∀ t, t < 24 → qmo (V z_mu0 0) t = -1 := by decide +kernel
    exact fun t ht => Or.inl (h t ht)
