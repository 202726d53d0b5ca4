theorem of_b {x : Int32} {B : Nat} (h : 0 ≤ x.toInt ∧ x.toInt ≤ (B : Int)) : ∃ t : Nat, t ≤ B ∧ t < 2 ^ 31 ∧ x = nI t := by
  rcases pcase x with h1 | ⟨t, ht, rfl⟩
  · rw [i_lt, i_0] at h1; omega
  · rw [nI_toInt ht] at h
    exact ⟨t, by omega, ht, rfl⟩
def qchain (a : Nat → Int32) (t C w : Nat) : Int32 := if qcut a t = 0 then -1 else if w = 0 then mxF (itF C (zF0 (a (22 + 7 * t)).toNatClampNeg (a 0).toNatClampNeg (a (22 + 7 * t + 1)))) else qall C (a (22 + 7 * t)) (a (22 + 7 * t + 1)) (a 0)
theorem c_chain {μ : Mm} (hB : JB μ) (hR : Bd (V μ 0)) {t C w : Nat} (ht : t < 24) (hC : 1 ≤ C ∧ C ≤ 5) (hw : w < 2) : ∃ ν : Mm, f_X3_chain (nI t) (nI C) (nI w) μ = some (.inr (qchain (V μ 0) t C w), ν) ∧ (∀ c, c < 96 ∨ 119 ≤ c → ν c = μ c) ∧ JB ν := by
  have a1 : ¬ nI C < 1 := nI_nlt (b := 1) (by omega) (by omega)
  have a2 : nI C ≤ 5 := nI_le (b := 5) (by omega) (by omega)
  by_cases hc : qcut (V μ 0) t = 0
  · refine ⟨μ, ?_, fun _ _ => rfl, hB⟩
    unfold f_X3_chain qchain
    rw [ck_tr ht, zbx_of rfl, if_neg a1, if_pos a2, show (2 : Int32) = nI 2 from rfl, ck_wh hw (by decide), zbx_of rfl, c_cut ht, zb_of rfl, if_pos hc, if_pos hc]
  · obtain ⟨d, hd, hd3, ed⟩ := of_b (B := 9) (hR.1 t ht).1
    obtain ⟨s, hs, hs3, es⟩ := of_b (B := 100) hR.2.1
    have hd1 : 1 ≤ d := by
      have := qcut_pos' hc
      rw [ed, nI_toInt hd3] at this
      omega
    have e1 : μ 1 t = nI d := by rw [← V_d μ 0 t] at *; exact ed
    have e0 : μ 0 9 = nI s := es
    have hw2 : w = 0 ∨ w = 1 := by omega
    rcases hw2 with rfl | rfl
    · obtain ⟨ν, b1, b2, b3⟩ := c_steps (μ := μ) (C := C) (d := d) (s := s) (c := μ 2 t) hB (by omega) ⟨hd1, hd⟩ hs
      refine ⟨ν, ?_, b2, b3⟩
      unfold f_X3_chain qchain
      rw [ck_tr ht, zbx_of rfl, if_neg a1, if_pos a2, show (2 : Int32) = nI 2 from rfl, ck_wh hw (by decide), zbx_of rfl, c_cut ht, zb_of rfl, if_neg hc, if_neg hc]
      simp (disch := omega) only [pzix, pcl, if_true]
      rw [if_pos (show nI 0 = 0 from rfl), e1, e0, b1, zb_of rfl, ed, es, pcl hd3, pcl hs3, c_c1]
    · refine ⟨μ, ?_, fun _ _ => rfl, hB⟩
      unfold f_X3_chain qchain
      rw [ck_tr ht, zbx_of rfl, if_neg a1, if_pos a2, show (2 : Int32) = nI 2 from rfl, ck_wh hw (by decide), zbx_of rfl, c_cut ht, zb_of rfl, if_neg hc, if_neg hc]
      simp (disch := omega) only [pzix, pcl, if_true]
      rw [if_neg (show ¬ nI 1 = 0 by decide), c_all5 C hC.2, zb_of rfl, if_neg (by decide), V_d, c_c1, V_st _ _ _ (by decide)]
