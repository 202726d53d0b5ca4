/-! PURE: the class's looks, and the reference's, are the specs -/
theorem i_le (a b : Int32) : a ≤ b ↔ a.toInt ≤ b.toInt := Int32.le_iff_toInt_le
theorem i_lt (a b : Int32) : a < b ↔ a.toInt < b.toInt := Int32.lt_iff_toInt_lt
theorem i_eq (a b : Int32) : a = b ↔ a.toInt = b.toInt := Int32.toInt_inj.symm
theorem i_0 : (0 : Int32).toInt = 0 := by decide
theorem i_1 : (1 : Int32).toInt = 1 := by decide
theorem i_9 : (9 : Int32).toInt = 9 := by decide
theorem i_20 : (20 : Int32).toInt = 20 := by decide
theorem c_cut {μ : Mm} {t : Nat} (ht : t < 24) : f_X2_isCut (nI t) μ = some (qcut (V μ 0) t, μ) := by
  simp (disch := omega) only [f_X2_isCut, pzix, pcl, if_true, qcut, V_d]
  split <;> rfl
theorem m_cut {μ : Mm} {t : Nat} (ht : t < 24) : f_X4_isCut (nI t) μ = some (qcut (μ 120) t, μ) := by
  simp (disch := omega) only [f_X4_isCut, f_X4_at, zb, p22, pzix, pcl, if_true, qcut]
  split <;> rfl
theorem c_fl {μ : Mm} : f_X2_machineFlutter μ = some (qfl (V μ 0), μ) := by
  simp (disch := omega) only [f_X2_machineFlutter, qfl, V_st]
  split <;> rfl
theorem m_fl {μ : Mm} : f_X4_machineFlutter μ = some (qfl (μ 120), μ) := by
  simp (disch := omega) only [f_X4_machineFlutter, qfl]
  split <;> rfl
theorem m_atLeast0 (x : Int32) {μ : Mm} : f_X4_atLeast x 0 μ = some (if 0 < x then x else 0, μ) := by
  unfold f_X4_atLeast
  by_cases h : 0 < x
  · rw [if_pos h, if_pos (show (0 : Int32) ≤ x by rw [i_le]; rw [i_lt] at h; omega)]
  · rw [if_neg h]
    by_cases h2 : (0 : Int32) ≤ x
    · rw [if_pos h2]
      have : x = 0 := by rw [i_eq]; rw [i_le] at h2; rw [i_lt] at h; rw [i_0] at *; omega
      rw [this]
    · rw [if_neg h2]
theorem m_atLeast (x y : Int32) {μ : Mm} : f_X4_atLeast x y μ = some (qmax y x, μ) := by
  unfold f_X4_atLeast qmax
  by_cases h : y < x
  · rw [if_pos h, if_pos (show y ≤ x by rw [i_le]; rw [i_lt] at h; omega)]
  · rw [if_neg h]
    by_cases h2 : y ≤ x
    · rw [if_pos h2]
      have : x = y := by rw [i_eq]; rw [i_le] at h2; rw [i_lt] at h; omega
      rw [this]
    · rw [if_neg h2]
theorem m_depthBy (d l : Int32) {μ : Mm} : f_X4_depthBy d l μ = some (qcd d l, μ) := by
  unfold f_X4_depthBy qcd
  generalize (d * l) / 2 = v
  have e1 := i_1
  have e9 := i_9
  by_cases h1 : 1 ≤ v
  · rw [if_pos h1]
    rw [i_le] at h1
    by_cases h2 : v ≤ 9
    · rw [if_pos h2]
      rw [i_le] at h2
      by_cases h3 : 1 < v
      · rw [if_pos h3]
        by_cases h4 : v < 9
        · rw [if_pos h4]
        · rw [if_neg h4]
          rw [i_lt] at h4
          have : v = 9 := by rw [i_eq]; omega
          rw [this]
      · rw [if_neg h3, if_pos (by decide)]
        rw [i_lt] at h3
        have : v = 1 := by rw [i_eq]; omega
        rw [this]
    · rw [if_neg h2]
      rw [i_le] at h2
      rw [if_pos (show 1 < v by rw [i_lt]; omega), if_neg (show ¬ v < 9 by rw [i_lt]; omega)]
  · rw [if_neg h1]
    rw [i_le] at h1
    rw [if_neg (show ¬ 1 < v by rw [i_lt]; omega), if_pos (by decide)]
theorem c_cd (d l : Int32) {μ : Mm} : f_X3_copiedDepth d l μ = some (qcd d l, μ) := rfl
theorem c_sa (d l : Int32) {μ : Mm} : f_X3_sharpnessAfter d l μ = some (qsa d l, μ) := rfl
theorem ne0_of_pos {l : Int32} (hl : 1 ≤ l) : ¬ l = 0 := fun h => by rw [h] at hl; exact absurd hl (by decide)
theorem c_cc (c l s f : Int32) (hl : 1 ≤ l) {μ : Mm} : f_X3_copiedClearness c l s f μ = some (qcc c l s f, μ) := by
  simp only [f_X3_copiedClearness, f_X3_bluntness, zb, if_pos hl, if_pos (ne0_of_pos hl), qcc]
theorem c_ly {μ : Mm} {t : Nat} (ht : t < 24) : V μ 0 (10 + 2 * (t / 4)) = μ 8 (t / 4) := V_ly μ 0 (t / 4) (by omega)
theorem c_sr {μ : Mm} {t : Nat} (ht : t < 24) (l : Int32) : f_X2_reasonNotToSpeak (nI t) l μ = some (qsr (V μ 0) t l, μ) := by
  simp (disch := omega) only [f_X2_reasonNotToSpeak, c_cut, zb, pdiv4, pzix, pcl, if_true, qsr, c_ly, V_st]
  repeat' split
  all_goals rfl
theorem m_ly {μ : Mm} {t : Nat} (ht : t < 24) : f_X4_layers (nI t) μ = some (μ 120 (10 + 2 * (t / 4)), μ) := by
  simp (disch := omega) only [f_X4_layers, pdiv4, p10, pzix, pcl, if_true]
theorem m_sr {μ : Mm} {t : Nat} (ht : t < 24) (l : Int32) : f_X4_speakReason (nI t) l μ = some (qsr (μ 120) t l, μ) := by
  simp (disch := omega) only [f_X4_speakReason, m_cut, m_ly, zb, qsr]
  repeat' split
  all_goals rfl
theorem c_cr {μ : Mm} {f t : Nat} (hf : f < 24) (ht : t < 24) (l : Int32) : f_X2_reasonNotToCopy (nI f) (nI t) l μ = some (qcr (V μ 0) f t l, μ) := by
  simp (disch := omega) only [f_X2_reasonNotToCopy, c_cut, c_cd, zb, pdiv4, pzix, pcl, if_true, qcr, c_ly, V_st, V_d, pinj]
  repeat' split
  all_goals rfl
theorem m_cr {μ : Mm} {f t : Nat} (hf : f < 24) (ht : t < 24) (l : Int32) : f_X4_copyReason (nI f) (nI t) l μ = some (qcr (μ 120) f t l, μ) := by
  simp (disch := omega) only [f_X4_copyReason, m_cut, m_ly, m_depthBy, f_X4_at, p22, zb, pdiv4, pzix, pcl, if_true, qcr, pinj]
  repeat' split
  all_goals rfl
theorem c_c1 {μ : Mm} {t : Nat} : V μ 0 (22 + 7 * t + 1) = μ 2 t := V_tr μ 0 t 1 (by decide)
theorem c_c2 {μ : Mm} {t : Nat} : V μ 0 (22 + 7 * t + 2) = μ 3 t := V_tr μ 0 t 2 (by decide)
theorem c_c3 {μ : Mm} {t : Nat} : V μ 0 (22 + 7 * t + 3) = μ 4 t := V_tr μ 0 t 3 (by decide)
theorem c_c4 {μ : Mm} {t : Nat} : V μ 0 (22 + 7 * t + 4) = μ 5 t := V_tr μ 0 t 4 (by decide)
theorem c_c5 {μ : Mm} {t : Nat} : V μ 0 (22 + 7 * t + 5) = μ 6 t := V_tr μ 0 t 5 (by decide)
theorem c_c6 {μ : Mm} {t : Nat} : V μ 0 (22 + 7 * t + 6) = μ 7 t := V_tr μ 0 t 6 (by decide)
theorem c_cl {μ : Mm} {f : Nat} (hf : f < 24) (l : Int32) (hl : 1 ≤ l) : f_X2_clearnessIfCopied (nI f) l μ = some (qcl (V μ 0) f l, μ) := by
  simp (disch := first | omega | assumption) only [f_X2_clearnessIfCopied, c_fl, c_cc, zb, pzix, pcl, if_true, qcl, c_c1, V_st]
theorem m_cl {μ : Mm} {f : Nat} (hf : f < 24) (l : Int32) (hl : 1 ≤ l) : f_X4_clearOfCopy (nI f) l μ = some (qcl (μ 120) f l, μ) := by
  simp (disch := omega) only [f_X4_clearOfCopy, f_X4_at, p22, pa1, m_fl, f_X4_bluntness, m_atLeast0, zb, pzix, pcl, if_true, qcl, qcc, if_pos (ne0_of_pos hl)]
theorem m_pr {μ : Mm} {t : Nat} (ht : t < 24) : f_X4_playReason (nI t) μ = some (if qcut (μ 120) t = 0 then 1 else if 5 ≤ μ 120 1 then 0 else 2, μ) := by
  simp (disch := omega) only [f_X4_playReason, m_cut, zb]
  repeat' split
  all_goals rfl
