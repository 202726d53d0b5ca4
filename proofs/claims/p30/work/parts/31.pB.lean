/-! PURE: the class's looks, and the reference's, are the specs -/
theorem i_le (a b : Int32) : a ≤ b ↔ a.toInt ≤ b.toInt := Int32.le_iff_toInt_le
theorem i_lt (a b : Int32) : a < b ↔ a.toInt < b.toInt := Int32.lt_iff_toInt_lt
theorem i_eq (a b : Int32) : a = b ↔ a.toInt = b.toInt := Int32.toInt_inj.symm
theorem i_0 : (0 : Int32).toInt = 0 := by decide
theorem i_1 : (1 : Int32).toInt = 1 := by decide
theorem i_9 : (9 : Int32).toInt = 9 := by decide
theorem i_20 : (20 : Int32).toInt = 20 := by decide
theorem c_cut {μ : Mm} {t : Nat} (ht : t < 24) : f_X2_isCut (nI t) μ = some (qcut (V μ 0) t, μ) := by
  simp (disch := omega) only [f_X2_isCut, pzix, pcl, if_true, qcut, V_d]
  split <;> rfl
theorem c_fl {μ : Mm} : f_X2_machineFlutter μ = some (qfl (V μ 0), μ) := by
  simp (disch := omega) only [f_X2_machineFlutter, qfl, V_st]
  split <;> rfl
theorem c_cd (d l : Int32) {μ : Mm} : f_X3_copiedDepth d l μ = some (qcd d l, μ) := rfl
theorem c_sa (d l : Int32) {μ : Mm} : f_X3_sharpnessAfter d l μ = some (qsa d l, μ) := rfl
theorem ne0_of_pos {l : Int32} (hl : 1 ≤ l) : ¬ l = 0 := fun h => by rw [h] at hl; exact absurd hl (by decide)
theorem c_cc (c l s f : Int32) (hl : 1 ≤ l) {μ : Mm} : f_X3_copiedClearness c l s f μ = some (qcc c l s f, μ) := by
  simp only [f_X3_copiedClearness, f_X3_bluntness, zb, if_pos hl, if_pos (ne0_of_pos hl), qcc]
theorem c_ly {μ : Mm} {t : Nat} (ht : t < 24) : V μ 0 (10 + 2 * (t / 4)) = μ 8 (t / 4) := V_ly μ 0 (t / 4) (by omega)
theorem c_sr {μ : Mm} {t : Nat} (ht : t < 24) (l : Int32) : f_X2_reasonNotToSpeak (nI t) l μ = some (qsr (V μ 0) t l, μ) := by
  simp (disch := omega) only [f_X2_reasonNotToSpeak, c_cut, zb, pdiv4, pzix, pcl, if_true, qsr, c_ly, V_st]
  repeat' split
  all_goals rfl
theorem c_cr {μ : Mm} {f t : Nat} (hf : f < 24) (ht : t < 24) (l : Int32) : f_X2_reasonNotToCopy (nI f) (nI t) l μ = some (qcr (V μ 0) f t l, μ) := by
  simp (disch := omega) only [f_X2_reasonNotToCopy, c_cut, c_cd, zb, pdiv4, pzix, pcl, if_true, qcr, c_ly, V_st, V_d, pinj]
  repeat' split
  all_goals rfl
theorem c_c1 {μ : Mm} {t : Nat} : V μ 0 (22 + 7 * t + 1) = μ 2 t := V_tr μ 0 t 1 (by decide)
theorem c_c2 {μ : Mm} {t : Nat} : V μ 0 (22 + 7 * t + 2) = μ 3 t := V_tr μ 0 t 2 (by decide)
theorem c_c3 {μ : Mm} {t : Nat} : V μ 0 (22 + 7 * t + 3) = μ 4 t := V_tr μ 0 t 3 (by decide)
theorem c_c4 {μ : Mm} {t : Nat} : V μ 0 (22 + 7 * t + 4) = μ 5 t := V_tr μ 0 t 4 (by decide)
theorem c_c5 {μ : Mm} {t : Nat} : V μ 0 (22 + 7 * t + 5) = μ 6 t := V_tr μ 0 t 5 (by decide)
theorem c_c6 {μ : Mm} {t : Nat} : V μ 0 (22 + 7 * t + 6) = μ 7 t := V_tr μ 0 t 6 (by decide)
theorem c_cl {μ : Mm} {f : Nat} (hf : f < 24) (l : Int32) (hl : 1 ≤ l) : f_X2_clearnessIfCopied (nI f) l μ = some (qcl (V μ 0) f l, μ) := by
  simp (disch := first | omega | assumption) only [f_X2_clearnessIfCopied, c_fl, c_cc, zb, pzix, pcl, if_true, qcl, c_c1, V_st]
