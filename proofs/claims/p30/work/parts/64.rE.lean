/-! p30, PURE: one track hangs together -/
def Sm (μ ν : Mm) : Prop := (∀ c, c < 96 ∨ 119 ≤ c → ν c = μ c) ∧ JB ν
theorem Sm.rf {μ : Mm} (h : JB μ) : Sm μ μ := ⟨fun _ _ => rfl, h⟩
theorem Sm.tr {μ ν ρ : Mm} (h : Sm μ ν) (h2 : Sm ν ρ) : Sm μ ρ := ⟨fun c hc => (h2.1 c hc).trans (h.1 c hc), h2.2⟩
theorem Sm.V {μ ν : Mm} (h : Sm μ ν) : V ν 0 = V μ 0 := V_same (fun c hc => h.1 _ (by omega))
theorem Sm.hd {μ ν : Mm} (h : Sm μ ν) {s : Nat} {T : List (Nat → Int32)} (hd : Hd μ s T) : Hd ν s T := hd.scr h.1 h.2
theorem l_chn {n : Nat} {μ : Mm} (hB : JB μ) (hI : Iv n (V μ 0)) {t C w : Nat} (ht : t < 24) (hC : 1 ≤ C ∧ C ≤ 5) (hw : w < 2) : ∃ ν : Mm, f_L_chain (nI t) (nI C) (nI w) μ = some (qchain (V μ 0) t C w, ν) ∧ Sm μ ν := by
  obtain ⟨ν, e, h1, h2⟩ := l_chain hB hI.bd ht hC hw
  exact ⟨ν, e, h1, h2⟩
theorem qchain_0 {a : Nat → Int32} {t : Nat} (h : qcut a t = 0) (C w : Nat) : qchain a t C w = -1 := by unfold qchain; rw [if_pos h]
theorem qtp_0 (a : Nat → Int32) (t : Nat) : qtp a t 0 = a (22 + 7 * t) := rfl
theorem qtp_s {a : Nat → Int32} {t w : Nat} (h : qcut a t = 0) (hw : w ≠ 0) : qtp a t w = -1 := by unfold qtp; rw [if_neg hw, if_pos h]
theorem qtp_c {a : Nat → Int32} {t w : Nat} (h : ¬ qcut a t = 0) : qtp a t w = a (22 + 7 * t + w) := by
  unfold qtp
  by_cases hw : w = 0
  · rw [if_pos hw, hw]; rfl
  · rw [if_neg hw, if_neg h]
theorem trk_b13 {n0 : Nat} {t : Nat} (ht : t < 24) : ∀ (m k n : Nat) (μ : Mm), k + m = 7 → 1 ≤ k → m < n → JB μ → Iv n0 (V μ 0) → qcut (V μ 0) t = 0 → ∃ ν : Mm, f_L_track_b13 n (nI t) (nI k) μ = some (1, ν) ∧ Sm μ ν := by
  intro m
  induction m with
  | zero =>
    intro k n μ hk hk1 hn hB hI hc
    obtain ⟨n, rfl⟩ : ∃ q, n = q + 1 := ⟨n - 1, by omega⟩
    obtain ⟨ν1, e1, s1⟩ := l_chn hB hI ht (C := 1) (w := 0) (by decide) (by decide)
    obtain ⟨ν2, e2, s2⟩ := l_chn s1.2 (by rw [s1.V]; exact hI) ht (C := 5) (w := 1) (by decide) (by decide)
    refine ⟨ν2, ?_, s1.tr s2⟩
    have hc1 : qcut (V ν1 0) t = 0 := by rw [s1.V]; exact hc
    have hc2 : qcut (V ν2 0) t = 0 := by rw [s2.V]; exact hc1
    rw [f_L_track_b13, if_pos (show (7 : Int32) ≤ nI k from ple (a := 7) (by omega) (by omega)), show f_L_chain (nI t) 1 0 μ = some (qchain (V μ 0) t 1 0, ν1) from e1, zb_of rfl, if_pos (qchain_0 hc 1 0), show f_L_chain (nI t) 5 1 ν1 = some (qchain (V ν1 0) t 5 1, ν2) from e2, zb_of rfl, if_pos (qchain_0 hc1 5 1), l_why ht (by decide), zb_of rfl, if_neg]
    unfold qsr
    rw [if_pos hc2]
    repeat' split
    all_goals decide
  | succ m ih =>
    intro k n μ hk hk1 hn hB hI hc
    obtain ⟨n, rfl⟩ : ∃ q, n = q + 1 := ⟨n - 1, by omega⟩
    obtain ⟨ν, e, s⟩ := ih (k + 1) n μ (by omega) (by omega) (by omega) hB hI hc
    refine ⟨ν, ?_, s⟩
    rw [f_L_track_b13, if_neg (show ¬ (7 : Int32) ≤ nI k from pge (b := 7) (by omega) (by omega)), l_tp ht (show k < 7 by omega), zb_of rfl, if_pos (qtp_s hc (by omega)), pa1]
    exact e
theorem trk_b238 {n0 : Nat} {t : Nat} (ht : t < 24) : ∀ (m k n : Nat) (x : Int32) (μ : Mm), k + m = 6 → 1 ≤ k → m < n → JB μ → Iv n0 (V μ 0) → ¬ qcut (V μ 0) t = 0 → (qall k (V μ 0 (22 + 7 * t)) (V μ 0 (22 + 7 * t + 1)) (V μ 0 0)).toInt ≤ x.toInt → ∃ ν : Mm, f_L_track_b238 n (nI t) x (nI k) μ = some (1, ν) ∧ Sm μ ν := by
  intro m
  induction m with
  | zero =>
    intro k n x μ hk hk1 hn hB hI hc hx
    obtain ⟨n, rfl⟩ : ∃ q, n = q + 1 := ⟨n - 1, by omega⟩
    refine ⟨μ, ?_, Sm.rf hB⟩
    rw [f_L_track_b238, if_pos (show (6 : Int32) ≤ nI k from ple (a := 6) (by omega) (by omega))]
  | succ m ih =>
    intro k n x μ hk hk1 hn hB hI hc hx
    obtain ⟨n, rfl⟩ : ∃ q, n = q + 1 := ⟨n - 1, by omega⟩
    have hT := hI.1 t ht
    obtain ⟨ν1, e1, s1⟩ := l_chn hB hI ht (C := k) (w := 0) ⟨hk1, by omega⟩ (by decide)
    rw [chain_cut hI ht (by decide) hc] at e1
    have hq0 := qall_nn k (V μ 0 (22 + 7 * t)) (V μ 0 (22 + 7 * t + 1)) (V μ 0 0) hT.2.1.1
    have hq1 := qall_step k (V μ 0 (22 + 7 * t)) (V μ 0 (22 + 7 * t + 1)) (V μ 0 0) ⟨hT.2.1.1, by have := hT.2.1.2; omega⟩ hI.2.1
    have go : ∀ ν : Mm, Sm μ ν → ∃ ν' : Mm, f_L_track_b238 n (nI t) (qall k (V μ 0 (22 + 7 * t)) (V μ 0 (22 + 7 * t + 1)) (V μ 0 0)) (nI k + 1) ν = some (1, ν') ∧ Sm μ ν' := fun ν s => by
      obtain ⟨ν', e, s'⟩ := ih (k + 1) n (qall k (V μ 0 (22 + 7 * t)) (V μ 0 (22 + 7 * t + 1)) (V μ 0 0)) ν (by omega) (by omega) (by omega) s.2 (by rw [s.V]; exact hI) (by rw [s.V]; exact hc) (by rw [s.V]; exact hq1)
      exact ⟨ν', by rw [pa1]; exact e, s.tr s'⟩
    rw [f_L_track_b238, if_neg (show ¬ (6 : Int32) ≤ nI k from pge (b := 6) (by omega) (by omega)), show f_L_chain (nI t) (nI k) 0 μ = _ from e1, zb_of rfl, if_neg (fun q => by rw [i_lt] at q; omega), if_neg (fun q => by rw [i_lt, i_0] at q; omega)]
    by_cases h3 : 3 < nI k
    · rw [if_pos h3]; exact go ν1 s1
    · rw [if_neg h3]
      obtain ⟨ν2, e2, s2⟩ := l_chn s1.2 (by rw [s1.V]; exact hI) ht (C := k) (w := 1) ⟨hk1, by omega⟩ (by decide)
      rw [s1.V, chain_cut hI ht (by decide) hc] at e2
      rw [show f_L_chain (nI t) (nI k) 1 ν1 = _ from e2, zb_of rfl, if_pos rfl]
      exact go ν2 (s1.tr s2)
theorem div4_ne {u t : Nat} (hu : u < 24) (ht : t < 24) (h : u / 4 ≠ t / 4) : ¬ nI u / 4 = nI t / 4 := by
  rw [pdiv4 (by omega), pdiv4 (by omega)]
  exact nI_ne h (by omega) (by omega)
theorem qcp_0 (a : Nat → Int32) (c : Nat) : qcp a c 0 = a (10 + 2 * c) := rfl
theorem trk_b202 {n0 : Nat} {t : Nat} (ht : t < 24) {μ : Mm} (hB : JB μ) (hI : Iv n0 (V μ 0)) (hc : ¬ qcut (V μ 0) t = 0) : ∃ ν : Mm, f_L_track_b202 (nI t) (V μ 0 (22 + 7 * t)) (V μ 0 (22 + 7 * t + 1)) μ = some (1, ν) ∧ Sm μ ν := by
  have hT := hI.1 t ht
  have hl := (hT.2.2.2 (qcut_pos' hc)).2.2.2.2.2.2
  have hq1 := qall_step 0 (V μ 0 (22 + 7 * t)) (V μ 0 (22 + 7 * t + 1)) (V μ 0 0) ⟨hT.2.1.1, by have := hT.2.1.2; omega⟩ hI.2.1
  obtain ⟨ν, e, s⟩ := trk_b238 ht 5 1 z_F (V μ 0 (22 + 7 * t + 1)) μ rfl (by decide) (by decide) hB hI hc hq1
  refine ⟨ν, ?_, s⟩
  unfold f_L_track_b202
  rw [pdiv4 (by omega), show f_L_cylinderOf (nI (t / 4)) 0 μ = some (qcp (V μ 0) (t / 4) 0, μ) from l_cp (by omega) (by decide), zb_of rfl, qcp_0, if_neg (fun q => by rw [i_lt] at q; omega), l_why ht (by decide), zb_of rfl, if_pos (by unfold qsr; rw [if_neg hc])]
  exact e
theorem trk_b184 {n0 : Nat} {t : Nat} (ht : t < 24) {μ : Mm} (hB : JB μ) (hI : Iv n0 (V μ 0)) (hc : ¬ qcut (V μ 0) t = 0) (y : Int32) : ∃ ν : Mm, f_L_track_b184 (nI t) (V μ 0 (22 + 7 * t)) (V μ 0 (22 + 7 * t + 1)) (V μ 0 (22 + 7 * t + 4)) y y μ = some (1, ν) ∧ Sm μ ν := by
  obtain ⟨ν, e, s⟩ := trk_b202 ht hB hI hc
  refine ⟨ν, ?_, s⟩
  have hm := ((hI.1 t ht).2.2.2 (qcut_pos' hc)).2.2.2.2.2.1
  unfold f_L_track_b184
  rw [if_pos rfl]
  rcases hm with hm | ⟨u, hu, hut, hm⟩
  · rw [hm, if_pos (by decide)]; exact e
  · rw [hm, if_neg (show ¬ nI u < 0 from nI_nlt (b := 0) (by omega) (by omega)), if_neg (div4_ne hu ht hut)]; exact e
theorem trk_ok {n0 : Nat} (hn0 : n0 < 1000) {t : Nat} (ht : t < 24) {μ : Mm} (hB : JB μ) (hI : Iv n0 (V μ 0)) : ∃ ν : Mm, f_L_track (nI t) μ = some (1, ν) ∧ Sm μ ν := by
  obtain ⟨k1, k2, k3, k4⟩ := hI.1 t ht
  have e0 : f_L_trackOf (nI t) 0 μ = some (qtp (V μ 0) t 0, μ) := l_tp ht (by decide)
  have e1 : f_L_trackOf (nI t) 1 μ = some (qtp (V μ 0) t 1, μ) := l_tp ht (by decide)
  have e2 : f_L_trackOf (nI t) 2 μ = some (qtp (V μ 0) t 2, μ) := l_tp ht (by decide)
  have e3 : f_L_trackOf (nI t) 3 μ = some (qtp (V μ 0) t 3, μ) := l_tp ht (by decide)
  have e4 : f_L_trackOf (nI t) 4 μ = some (qtp (V μ 0) t 4, μ) := l_tp ht (by decide)
  have e5 : f_L_trackOf (nI t) 5 μ = some (qtp (V μ 0) t 5, μ) := l_tp ht (by decide)
  have e6 : f_L_trackOf (nI t) 6 μ = some (qtp (V μ 0) t 6, μ) := l_tp ht (by decide)
  unfold f_L_track
  by_cases hc : qcut (V μ 0) t = 0
  · obtain ⟨ν, e, s⟩ := trk_b13 ht 6 1 z_F μ rfl (by decide) (by decide) hB hI hc
    have hz : V μ 0 (22 + 7 * t) = 0 := by rw [i_eq, i_0]; have := qcut_z.mp hc; omega
    refine ⟨ν, ?_, s⟩
    rw [e0, zb_of rfl, qtp_0, if_pos hz]
    exact e
  · have hp := qcut_pos' hc
    obtain ⟨p1, p2, p3, p4, p5, p6, p7⟩ := k4 hp
    have i10 : (10 : Int32).toInt = 10 := i_10
    rw [e0, zb_of rfl, qtp_0, if_neg (fun q => by rw [q, i_0] at hp; omega), e1, zb_of rfl, e4, zb_of rfl, e3, zb_of rfl, if_neg (fun q => by rw [i_le, i_0] at q; omega), if_neg (fun q => by rw [i_le, i10] at q; omega), qtp_c hc, qtp_c hc, qtp_c hc,
      if_neg (fun q => by rw [i_lt, i_0] at q; omega), e5, zb_of rfl, qtp_c hc, if_neg (fun q => by rw [i_lt] at q; omega), e5, zb_of rfl, qtp_c hc, if_neg (fun q => by rw [i_lt, i_100] at q; omega), e2, zb_of rfl, qtp_c hc, if_neg (fun q => by rw [i_lt, i_0] at q; omega), e2, zb_of rfl, qtp_c hc, if_neg (fun q => by rw [i_lt, i_20] at q; omega), e6, zb_of rfl, qtp_c hc, if_neg (fun q => by rw [i_lt, i_0] at q; omega)]
    by_cases hg : V μ 0 (22 + 7 * t + 3) = 0
    · rw [if_pos hg, if_pos (p5.mp (by rw [hg, i_0]))]; exact trk_b184 ht hB hI hc 1
    · rw [if_neg hg, if_neg (fun q => hg (by rw [i_eq, i_0]; exact p5.mpr q))]; exact trk_b184 ht hB hI hc 0
