/-! PURE: loops over tracks and cylinders -/
theorem l24 : (24 : Int32) = nI 24 := rfl
theorem l6 : (6 : Int32) = nI 6 := rfl
theorem l190 : (190 : Int32) = nI 190 := rfl
theorem c_deep_l {μ : Mm} {c : Nat} (hc : c < 6) : ∀ (m k n : Nat) (a : Int32), k + m = 4 * c + 4 → m < n → f_X2_greatestDepth_b9 n a (nI (4 * c)) (nI k) μ = some ((lp (fun t a => qmax a (V μ 0 (22 + 7 * t))) m k a), μ) := by
  intro m
  induction m with
  | zero =>
    intro k n a hk hn
    obtain ⟨n, rfl⟩ : ∃ q, n = q + 1 := ⟨n - 1, by omega⟩
    rw [f_X2_greatestDepth_b9, pa4, if_pos (ple (by omega) (by omega))]
    rfl
  | succ m ih =>
    intro k n a hk hn
    obtain ⟨n, rfl⟩ : ∃ q, n = q + 1 := ⟨n - 1, by omega⟩
    rw [f_X2_greatestDepth_b9, pa4, if_neg (pge (by omega) (by omega))]
    simp (disch := omega) only [pzix, pcl, if_true, pa1]
    have h := ih (k + 1) n (qmax a (V μ 0 (22 + 7 * k))) (by omega) (by omega)
    rw [V_d] at h
    exact h.trans (by show _ = some (lp _ m (k + 1) (qmax a (V μ 0 (22 + 7 * k))), μ); (try dsimp only); rw [V_d])
theorem c_deep {μ : Mm} {c : Nat} (hc : c < 6) : f_X2_greatestDepth (nI c) μ = some (qdeep (V μ 0) c, μ) := by
  unfold f_X2_greatestDepth; rw [pm4]; exact c_deep_l hc 4 (4 * c) z_F 0 (by omega) (by decide)
theorem c_cuton_l {μ : Mm} {c : Nat} (hc : c < 6) : ∀ (m k n : Nat) (a : Int32), k + m = 4 * c + 4 → m < n → f_X2_cutTracksOn_b9 n a (nI (4 * c)) (nI k) μ = some ((lp (fun t a => if qcut (V μ 0) t = 0 then a + 0 else a + 1) m k a), μ) := by
  intro m
  induction m with
  | zero =>
    intro k n a hk hn
    obtain ⟨n, rfl⟩ : ∃ q, n = q + 1 := ⟨n - 1, by omega⟩
    rw [f_X2_cutTracksOn_b9, pa4, if_pos (ple (by omega) (by omega))]
    rfl
  | succ m ih =>
    intro k n a hk hn
    obtain ⟨n, rfl⟩ : ∃ q, n = q + 1 := ⟨n - 1, by omega⟩
    rw [f_X2_cutTracksOn_b9, pa4, if_neg (pge (by omega) (by omega))]
    simp (disch := omega) only [c_cut, zb, pa1]
    split
    · rename_i h
      have h2 := ih (k + 1) n (a + 0) (by omega) (by omega)
      exact h2.trans (by show _ = some (lp _ m (k + 1) _, μ); (try dsimp only); rw [if_pos h])
    · rename_i h
      have h2 := ih (k + 1) n (a + 1) (by omega) (by omega)
      exact h2.trans (by show _ = some (lp _ m (k + 1) _, μ); (try dsimp only); rw [if_neg h])
theorem c_cuton {μ : Mm} {c : Nat} (hc : c < 6) : f_X2_cutTracksOn (nI c) μ = some (qcuton (V μ 0) c, μ) := by
  unfold f_X2_cutTracksOn; rw [pm4]; exact c_cuton_l hc 4 (4 * c) z_F 0 (by omega) (by decide)
theorem c_cuts_l {μ : Mm} : ∀ (m k n : Nat) (a : Int32), k + m = 6 → m < n → f_X2_cutTracks_b4 n a (nI k) μ = some ((lp (fun c a => a + qcuton (V μ 0) c) m k a), μ) := by
  intro m
  induction m with
  | zero =>
    intro k n a hk hn
    obtain ⟨n, rfl⟩ : ∃ q, n = q + 1 := ⟨n - 1, by omega⟩
    rw [f_X2_cutTracks_b4, l6, if_pos (ple (by omega) (by omega))]
    rfl
  | succ m ih =>
    intro k n a hk hn
    obtain ⟨n, rfl⟩ : ∃ q, n = q + 1 := ⟨n - 1, by omega⟩
    rw [f_X2_cutTracks_b4, l6, if_neg (pge (by omega) (by omega))]
    simp (disch := omega) only [c_cuton, zb, pa1]
    exact ih (k + 1) n _ (by omega) (by omega)
theorem qcuts_eq (st : Nat → Int32) : lp (fun c a => a + qcuton st c) 6 0 0 = qcuts st := by
  unfold qcuts qcuton
  have hx : ∀ t (a : Int32), (if qcut st t = 0 then a + 0 else a + 1) = a + (if qcut st t = 0 then 0 else 1) := fun t a => by split <;> rfl
  have e : (fun t (a : Int32) => if qcut st t = 0 then a + 0 else a + 1) = fun t a => a + (if qcut st t = 0 then 0 else 1) := funext fun t => funext fun a => hx t a
  rw [e]
  simp only [lp, Int32.zero_add, Int32.add_assoc, Nat.reduceMul, Nat.reduceAdd]
theorem c_cuts {μ : Mm} : f_X2_cutTracks μ = some (qcuts (V μ 0), μ) := by
  rw [← qcuts_eq]
  exact c_cuts_l 6 0 z_F 0 rfl (by decide)
theorem c_lay_l {μ : Mm} : ∀ (m k n : Nat) (a : Int32), k + m = 6 → m < n → f_X2_layersTogether_b4 n a (nI k) μ = some ((lp (fun c a => a + V μ 0 (10 + 2 * c)) m k a), μ) := by
  intro m
  induction m with
  | zero =>
    intro k n a hk hn
    obtain ⟨n, rfl⟩ : ∃ q, n = q + 1 := ⟨n - 1, by omega⟩
    rw [f_X2_layersTogether_b4, l6, if_pos (ple (by omega) (by omega))]
    rfl
  | succ m ih =>
    intro k n a hk hn
    obtain ⟨n, rfl⟩ : ∃ q, n = q + 1 := ⟨n - 1, by omega⟩
    rw [f_X2_layersTogether_b4, l6, if_neg (pge (by omega) (by omega))]
    simp (disch := omega) only [pzix, pcl, if_true, pa1]
    have h := ih (k + 1) n (a + V μ 0 (10 + 2 * k)) (by omega) (by omega)
    rw [V_ly μ 0 k (by omega)] at h
    exact h.trans (by show _ = some (lp _ m (k + 1) (a + V μ 0 (10 + 2 * k)), μ); (try dsimp only); rw [V_ly μ 0 k (by omega)])
theorem c_lay {μ : Mm} : f_X2_layersTogether μ = some (qlay (V μ 0), μ) := c_lay_l 6 0 z_F 0 rfl (by decide)
theorem c_dep_l {μ : Mm} : ∀ (m k n : Nat) (a : Int32), k + m = 24 → m < n → f_X2_depthTogether_b4 n a (nI k) μ = some ((lp (fun t a => a + V μ 0 (22 + 7 * t)) m k a), μ) := by
  intro m
  induction m with
  | zero =>
    intro k n a hk hn
    obtain ⟨n, rfl⟩ : ∃ q, n = q + 1 := ⟨n - 1, by omega⟩
    rw [f_X2_depthTogether_b4, l24, if_pos (ple (by omega) (by omega))]
    rfl
  | succ m ih =>
    intro k n a hk hn
    obtain ⟨n, rfl⟩ : ∃ q, n = q + 1 := ⟨n - 1, by omega⟩
    rw [f_X2_depthTogether_b4, l24, if_neg (pge (by omega) (by omega))]
    simp (disch := omega) only [pzix, pcl, if_true, pa1]
    have h := ih (k + 1) n (a + V μ 0 (22 + 7 * k)) (by omega) (by omega)
    rw [V_d] at h
    exact h.trans (by show _ = some (lp _ m (k + 1) (a + V μ 0 (22 + 7 * k)), μ); (try dsimp only); rw [V_d])
theorem c_dep {μ : Mm} : f_X2_depthTogether μ = some (lp (fun t a => a + V μ 0 (22 + 7 * t)) 24 0 0, μ) := c_dep_l 24 0 z_F 0 rfl (by decide)
theorem c_clr_l {μ : Mm} : ∀ (m k n : Nat) (a : Int32), k + m = 24 → m < n → f_X2_clearnessTogether_b4 n a (nI k) μ = some ((lp (fun t a => if qcut (V μ 0) t = 0 then a + 0 else a + V μ 0 (22 + 7 * t + 1)) m k a), μ) := by
  intro m
  induction m with
  | zero =>
    intro k n a hk hn
    obtain ⟨n, rfl⟩ : ∃ q, n = q + 1 := ⟨n - 1, by omega⟩
    rw [f_X2_clearnessTogether_b4, l24, if_pos (ple (by omega) (by omega))]
    rfl
  | succ m ih =>
    intro k n a hk hn
    obtain ⟨n, rfl⟩ : ∃ q, n = q + 1 := ⟨n - 1, by omega⟩
    rw [f_X2_clearnessTogether_b4, l24, if_neg (pge (by omega) (by omega))]
    simp (disch := omega) only [c_cut, zb, pzix, pcl, if_true, pa1]
    split
    · rename_i h
      have h2 := ih (k + 1) n (a + 0) (by omega) (by omega)
      exact h2.trans (by show _ = some (lp _ m (k + 1) _, μ); (try dsimp only); rw [if_pos h])
    · rename_i h
      have h2 := ih (k + 1) n (a + V μ 0 (22 + 7 * k + 1)) (by omega) (by omega)
      rw [c_c1] at h2
      exact h2.trans (by show _ = some (lp _ m (k + 1) _, μ); (try dsimp only); rw [if_neg h, c_c1])
theorem c_clr {μ : Mm} : f_X2_clearnessTogether μ = some (qsum (V μ 0) 1, μ) := c_clr_l 24 0 z_F 0 rfl (by decide)
theorem qn0 : qn 0 = -1 := rfl
theorem qns (t : Nat) : qn (t + 1) = nI t := rfl
theorem qn_ne {a : Nat} (h : a ≠ 0) (h2 : a < 2 ^ 31) : ¬ qn a = -1 := by unfold qn; rw [if_neg h]; exact pneg (by omega)
theorem qn_nz {a : Nat} (h : a ≠ 0) : qn a = nI (a - 1) := if_neg h
theorem c_cton_l {μ : Mm} {c : Nat} (hc : c < 6) : ∀ (m k n : Nat) (a : Nat), k + m = 4 * c + 4 → m < n → a ≤ 24 → f_X2_clearestTrackOn_b9 n (qn a) (nI (4 * c)) (nI k) μ = some (qn (lp (fun t a => if qcut (V μ 0) t = 0 then a else if a = 0 then t + 1 else if V μ 0 (22 + 7 * t + 1) ≤ V μ 0 (22 + 7 * (a - 1) + 1) then a else t + 1) m k a), μ) := by
  intro m
  induction m with
  | zero =>
    intro k n a hk hn hi
    obtain ⟨n, rfl⟩ : ∃ q, n = q + 1 := ⟨n - 1, by omega⟩
    rw [f_X2_clearestTrackOn_b9, pa4, if_pos (ple (by omega) (by omega))]
    rfl
  | succ m ih =>
    intro k n a hk hn hi
    obtain ⟨n, rfl⟩ : ∃ q, n = q + 1 := ⟨n - 1, by omega⟩
    rw [f_X2_clearestTrackOn_b9, pa4, if_neg (pge (by omega) (by omega))]
    simp (disch := omega) only [c_cut, zb, pa1]
    by_cases h : qcut (V μ 0) k = 0
    · rw [if_pos h]
      have h2 := ih (k + 1) n a (by omega) (by omega) hi
      exact h2.trans (by show _ = some (qn (lp _ m (k + 1) _), μ); (try dsimp only); rw [if_pos h])
    · rw [if_neg h]
      by_cases h0 : a = 0
      · rw [if_pos (show qn a = -1 by rw [h0]; rfl)]
        have h2 := ih (k + 1) n (k + 1) (by omega) (by omega) (by omega)
        exact h2.trans (by show _ = some (qn (lp _ m (k + 1) _), μ); (try dsimp only); rw [if_neg h, if_pos h0])
      · rw [if_neg (qn_ne h0 (by omega)), qn_nz h0]
        simp (disch := omega) only [pzix, pcl, if_true]
        rw [← c_c1 (μ := μ) (t := k), ← c_c1 (μ := μ) (t := a - 1)]
        by_cases h3 : V μ 0 (22 + 7 * k + 1) ≤ V μ 0 (22 + 7 * (a - 1) + 1)
        · rw [if_pos h3]
          have h2 := ih (k + 1) n a (by omega) (by omega) hi
          rw [qn_nz h0] at h2
          exact h2.trans (by show _ = some (qn (lp _ m (k + 1) _), μ); (try dsimp only); rw [if_neg h, if_neg h0, if_pos h3])
        · rw [if_neg h3]
          have h2 := ih (k + 1) n (k + 1) (by omega) (by omega) (by omega)
          exact h2.trans (by show _ = some (qn (lp _ m (k + 1) _), μ); (try dsimp only); rw [if_neg h, if_neg h0, if_neg h3])
theorem c_cton {μ : Mm} {c : Nat} (hc : c < 6) : f_X2_clearestTrackOn (nI c) μ = some (qn (qcton (V μ 0) c), μ) := by
  unfold f_X2_clearestTrackOn; rw [pm4]; exact c_cton_l hc 4 (4 * c) z_F 0 (by omega) (by decide) (by decide)
theorem c_sb {μ : Mm} {t a : Nat} (ht : t < 24) (ha : a < 24) : f_X2_soundsBetter (nI t) (nI a) μ = some (if qbet (V μ 0) t a then 1 else 0, μ) := by
  simp (disch := omega) only [f_X2_soundsBetter, pzix, pcl, if_true, qbet, c_c1, c_c2]
  by_cases h : μ 2 t = μ 2 a
  · simp only [if_pos h]
    by_cases h2 : μ 3 a ≤ μ 3 t
    · rw [if_pos h2, if_neg (fun q => q h2)]
    · rw [if_neg h2, if_pos h2]
  · simp only [if_neg h]
    by_cases h2 : μ 2 t ≤ μ 2 a
    · rw [if_pos h2, if_neg (fun q => q h2)]
    · rw [if_neg h2, if_pos h2]
theorem c_ct_l {μ : Mm} : ∀ (m k n : Nat) (a : Nat), k + m = 24 → m < n → a ≤ 24 → f_X2_clearestTrack_b4 n (qn a) (nI k) μ = some (qn (lp (fun t a => if qcut (V μ 0) t = 0 then a else if a = 0 then t + 1 else if qbet (V μ 0) t (a - 1) then t + 1 else a) m k a), μ) := by
  intro m
  induction m with
  | zero =>
    intro k n a hk hn hi
    obtain ⟨n, rfl⟩ : ∃ q, n = q + 1 := ⟨n - 1, by omega⟩
    rw [f_X2_clearestTrack_b4, l24, if_pos (ple (by omega) (by omega))]
    rfl
  | succ m ih =>
    intro k n a hk hn hi
    obtain ⟨n, rfl⟩ : ∃ q, n = q + 1 := ⟨n - 1, by omega⟩
    rw [f_X2_clearestTrack_b4, l24, if_neg (pge (by omega) (by omega))]
    simp (disch := omega) only [c_cut, zb, pa1]
    by_cases h : qcut (V μ 0) k = 0
    · rw [if_pos h]
      have h2 := ih (k + 1) n a (by omega) (by omega) hi
      exact h2.trans (by show _ = some (qn (lp _ m (k + 1) _), μ); (try dsimp only); rw [if_pos h])
    · rw [if_neg h]
      by_cases h0 : a = 0
      · rw [if_pos (show qn a = -1 by rw [h0]; rfl)]
        have h2 := ih (k + 1) n (k + 1) (by omega) (by omega) (by omega)
        exact h2.trans (by show _ = some (qn (lp _ m (k + 1) _), μ); (try dsimp only); rw [if_neg h, if_pos h0])
      · rw [if_neg (qn_ne h0 (by omega)), qn_nz h0]
        simp (disch := omega) only [c_sb]
        by_cases h3 : qbet (V μ 0) k (a - 1)
        · simp only [if_pos h3]
          rw [if_neg (by decide)]
          have h2 := ih (k + 1) n (k + 1) (by omega) (by omega) (by omega)
          exact h2.trans (by show _ = some (qn (lp _ m (k + 1) _), μ); (try dsimp only); rw [if_neg h, if_neg h0, if_pos h3])
        · simp only [if_neg h3]
          rw [if_pos trivial]
          have h2 := ih (k + 1) n a (by omega) (by omega) hi
          rw [qn_nz h0] at h2
          exact h2.trans (by show _ = some (qn (lp _ m (k + 1) _), μ); (try dsimp only); rw [if_neg h, if_neg h0, if_neg h3])
theorem c_ct {μ : Mm} : f_X2_clearestTrack μ = some (qn (qct (V μ 0)), μ) := c_ct_l 24 0 z_F 0 rfl (by decide) (by decide)
