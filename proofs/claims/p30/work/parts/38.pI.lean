def Prm (μ : Mm) (p : Nat → Nat) : Prop := (∀ i, i < 6 → (3 ≤ p i ∧ p i < 9) ∧ μ 93 i = nI (10 * p i)) ∧ ∀ i j, i < 6 → j < 6 → p i = p j → i = j
def JB (μ : Mm) : Prop := (μ 96 0 = nI 97 ∧ μ 96 1 = nI 98) ∨ (μ 96 0 = nI 98 ∧ μ 96 1 = nI 97)
theorem zrf {n : Nat} (h : n < 2 ^ 31) : z_rf (nI n) = n := nI_clamp h
theorem c_drop {μ : Mm} {p : Nat → Nat} (hp : Prm μ p) : ∃ ν : Mm, f_X3_dropOldestState μ = some ((), ν) ∧ Prm ν (fun i => p (if i < 5 then i + 1 else 0)) ∧ ν 90 4 = nI 5 ∧ (∀ c, c ≠ 93 → c ≠ 90 → ν c = μ c) ∧ ∀ k, k ≠ 4 → ν 90 k = μ 90 k := by
  obtain ⟨h1, h2⟩ := hp
  have st : ∀ (n k : Nat) (ν : Mm), k + 1 < 6 → ν 93 (k + 1) = nI (10 * p (k + 1)) → f_X3_dropOldestState_b9 (n + 1) (10 * p 0) (nI (k + 1)) ν = f_X3_dropOldestState_b9 n (10 * p 0) (nI (k + 1 + 1)) (z_up ν 93 k (nI (10 * p (k + 1)))) := by
    intro n k ν hk hv
    have hb := (h1 (k + 1) hk).1
    rw [f_X3_dropOldestState_b9, l6, if_neg (pge (by omega) (by omega)), nI_pred]
    simp (disch := omega) only [pzix, pcl, if_true, pa1, hv, zrf]
    rw [if_pos (by omega)]
  have r0 := h1 0 (by decide)
  have r1 := (h1 1 (by decide)).2
  have r2 := (h1 2 (by decide)).2
  have r3 := (h1 3 (by decide)).2
  have r4 := (h1 4 (by decide)).2
  have r5 := (h1 5 (by decide)).2
  refine ⟨z_up (z_up (z_up (z_up (z_up (z_up (z_up μ 93 0 (nI (10 * p 1))) 93 1 (nI (10 * p 2))) 93 2 (nI (10 * p 3))) 93 3 (nI (10 * p 4))) 93 4 (nI (10 * p 5))) 93 5 (nI (10 * p 0))) 90 4 5, ?_, ⟨fun i hi => ⟨?_, ?_⟩, fun i j hi hj e => ?_⟩, ?_, fun c hc hc2 => ?_, fun k hk => ?_⟩
  · unfold f_X3_dropOldestState
    rw [r0.2, zrf (by omega), if_pos (by omega), show z_F = 1194 + 1 + 1 + 1 + 1 + 1 + 1 from rfl, show (1 : Int32) = nI (0 + 1) from rfl]
    rw [st _ 0 _ (by decide) r1, st _ 1 _ (by decide) (by simp (disch := omega) only [z_up_s, upd_n]; exact r2), st _ 2 _ (by decide) (by simp (disch := omega) only [z_up_s, upd_n]; exact r3), st _ 3 _ (by decide) (by simp (disch := omega) only [z_up_s, upd_n]; exact r4), st _ 4 _ (by decide) (by simp (disch := omega) only [z_up_s, upd_n]; exact r5)]
    rw [f_X3_dropOldestState_b9, l6, if_pos (ple (by decide) (by decide)), if_pos (by omega)]
  · show 3 ≤ p (if i < 5 then i + 1 else 0) ∧ p (if i < 5 then i + 1 else 0) < 9
    exact (h1 _ (by split <;> omega)).1
  · have hi6 : i = 0 ∨ i = 1 ∨ i = 2 ∨ i = 3 ∨ i = 4 ∨ i = 5 := by omega
    rcases hi6 with rfl | rfl | rfl | rfl | rfl | rfl <;> (simp (disch := omega) only [z_up_s, z_up_n, upd_s, upd_n]; rfl)
  · have e2 := h2 _ _ (by split <;> omega) (by split <;> omega) e
    revert e2
    split <;> split <;> intro e2 <;> omega
  · simp (disch := omega) only [z_up_s, upd_s]; rfl
  · simp (disch := omega) only [z_up_n]
  · simp (disch := omega) only [z_up_s, z_up_n, upd_n]
/-- the class's saves -/
theorem c_save {μ : Mm} {p : Nat → Nat} {s : Nat} (hp : Prm μ p) (hs : s ≤ 6) (h4 : μ 90 4 = nI s) : ∃ (ν : Mm) (q : Nat → Nat), f_X3_saveState μ = some ((), ν) ∧ Prm ν q ∧ ν 90 4 = nI (if s < 6 then s + 1 else 6) ∧
    (∀ i, i + 1 < (if s < 6 then s + 1 else 6) → ∀ j, j < 190 → V ν (10 * q i) j = V μ (10 * p (if s < 6 then i else i + 1)) j) ∧ (∀ j, j < 190 → V ν (10 * q ((if s < 6 then s + 1 else 6) - 1)) j = V μ 0 j) ∧ (∀ c, c < 30 → ν c = μ c) ∧ (∀ c, 91 ≤ c → c ≠ 93 → ν c = μ c) := by
  have tail : ∀ (μ : Mm) (p : Nat → Nat) (r : Nat), Prm μ p → r < 6 → μ 90 4 = nI r → ∃ ν : Mm, f_X3_saveState_b13 μ = some ((), ν) ∧ Prm ν p ∧ ν 90 4 = nI (r + 1) ∧ (∀ i, i < 6 → i ≠ r → V ν (10 * p i) = V μ (10 * p i)) ∧ (∀ j, j < 190 → V ν (10 * p r) j = V μ 0 j) ∧ (∀ c, c < 30 → ν c = μ c) ∧ (∀ c, 91 ≤ c → ν c = μ c) := by
    intro μ p r hp hr h4
    obtain ⟨h1, h2⟩ := hp
    have hb := (h1 r hr)
    obtain ⟨ν, e, e1, e2⟩ := c_takeOver μ (k := 10 * p r) (x := 0) ⟨by omega, by omega⟩ (by decide) (by omega)
    refine ⟨z_up ν 90 4 (nI (r + 1)), ?_, ⟨fun i hi => ⟨(h1 i hi).1, ?_⟩, h2⟩, ?_, fun i hi hir => ?_, fun j hj => ?_, fun c hc => ?_, fun c hc => ?_⟩
    · unfold f_X3_saveState_b13
      rw [h4]
      simp (disch := omega) only [pzix, pcl, if_true, hb.2, zrf]
      rw [if_pos (by omega), e]
      show some ((), z_up ν 90 4 (ν 90 4 + 1)) = _
      rw [e2 90 (by omega), h4, pa1]
    · rw [z_up_n _ _ _ (by decide), e2 93 (by omega)]; exact (h1 i hi).2
    · rw [z_up_s, upd_s]
    · have hne : p i ≠ p r := fun q => hir (h2 i r hi hr q)
      have hbi := (h1 i hi).1
      refine V_same (fun c hc => ?_)
      rw [z_up_n _ _ _ (by omega), e2 _ (by omega)]
    · rw [← e1 j hj]
      exact congrFun (V_same (fun c hc => z_up_n _ _ _ (by omega))) j
    · rw [z_up_n _ _ _ (by omega), e2 c (by omega)]
    · rw [z_up_n _ _ _ (by omega), e2 c (by omega)]
  unfold f_X3_saveState
  by_cases h6 : s < 6
  · rw [h4, if_pos (show nI s < 6 from nI_lt h6 (by decide))]
    obtain ⟨ν, e, e1, e2, e3, e4, e5, e6⟩ := tail μ p s hp h6 h4
    refine ⟨ν, p, e, e1, ?_, fun i hi j hj => ?_, fun j hj => ?_, e5, fun c hc _ => e6 c hc⟩
    · rw [if_pos h6]; exact e2
    · rw [if_pos h6] at hi
      rw [if_pos h6, e3 i (by omega) (by omega)]
    · rw [if_pos h6]; exact e4 j hj
  · have hs6 : s = 6 := by omega
    subst hs6
    rw [h4, if_neg (show ¬ nI 6 < 6 by decide)]
    obtain ⟨ν0, d, d1, d2, d3, d4⟩ := c_drop hp
    obtain ⟨ν, e, e1, e2, e3, e4, e5, e6⟩ := tail ν0 _ 5 d1 (by decide) d2
    have hV : ∀ b, b % 10 = 0 → b < 90 → V ν0 b = V μ b := fun b hb hb2 => V_same (fun c hc => d3 _ (by omega) (by omega))
    refine ⟨ν, _, ?_, e1, ?_, fun i hi j hj => ?_, fun j hj => ?_, fun c hc => ?_, fun c hc hc3 => ?_⟩
    · rw [d]; exact e
    · rw [if_neg h6]; exact e2
    · rw [if_neg h6] at hi
      rw [if_neg h6, e3 i (by omega) (by omega)]
      have hq := (hp.1 (if i < 5 then i + 1 else 0) (by split <;> omega)).1
      rw [hV _ (by omega) (by omega), if_pos (show i < 5 by omega)]
    · rw [if_neg h6]
      have e4' := e4 j hj
      rw [hV 0 (by decide) (by decide)] at e4'
      exact e4'
    · rw [e5 c hc, d3 c (by omega) (by omega)]
    · rw [e6 c hc, d3 c hc3 (by omega)]
