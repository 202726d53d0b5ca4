theorem chr_ok : ∀ c : Nat, c < 127 → vp_nar .char ((((nI c)).toUInt32 % 65536).toInt32) = nI c := by decide +kernel
theorem code_cases (x : Int32) : (∃ c : Nat, 33 ≤ c ∧ c < 127 ∧ x = nI c) ∨ ¬ (33 ≤ x ∧ x ≤ 126) := by
  by_cases h : 33 ≤ x ∧ x ≤ 126
  · rcases pcase x with h0 | ⟨c, hc, rfl⟩
    · exfalso
      have h1 := h.1
      rw [i_lt, i_0] at h0
      rw [i_le, show (33 : Int32).toInt = 33 by decide] at h1
      omega
    · have h1 := h.1
      have h2 := h.2
      rw [i_le, show (33 : Int32).toInt = 33 by decide, nI_toInt hc] at h1
      rw [i_le, show (126 : Int32).toInt = 126 by decide, nI_toInt hc] at h2
      exact Or.inl ⟨c, by omega, by omega, rfl⟩
  · exact Or.inr h
theorem two33 (x : Int32) {α : Type} (a b : α) : (if x < 33 then a else if x ≤ 126 then b else a) = if 33 ≤ x ∧ x ≤ 126 then b else a := by
  by_cases h1 : x < 33
  · rw [if_pos h1, if_neg (fun q => by have := q.1; rw [i_le] at this; rw [i_lt] at h1; omega)]
  · rw [if_neg h1]
    by_cases h2 : x ≤ 126
    · rw [if_pos h2, if_pos ⟨by rw [i_lt] at h1; rw [i_le]; omega, h2⟩]
    · rw [if_neg h2, if_neg (fun q => h2 q.2)]
