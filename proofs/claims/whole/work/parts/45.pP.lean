/-! PURE: chains, the reference's steps -/
theorem l1010 : (1010 : Int32) = nI 1010 := rfl
theorem zF1200 : z_F = 1200 := rfl
theorem p101d {a : Nat} (h : a < 2 ^ 31) : nI a / 101 = nI (a / 101) := by
  apply Int32.toInt_inj.mp
  rw [i_div (by rw [nI_toInt h]; omega) (by decide), nI_toInt h, nI_toInt (by omega), show (101 : Int32).toInt = 101 by decide]
  omega
theorem p101r {a : Nat} (h : a < 2 ^ 31) : nI a - nI (a / 101) * 101 = nI (a % 101) := by
  rw [show (101 : Int32) = nI 101 from rfl, pmul]
  apply Int32.toInt_inj.mp
  rw [i_sub (by rw [nI_toInt h, nI_toInt (by omega)]; omega) (by rw [nI_toInt h, nI_toInt (by omega)]; omega), nI_toInt h, nI_toInt (by omega), nI_toInt (by omega)]
  omega
theorem m_b2 {x1 x2 : Int32} : ∀ (m k n : Nat) (μ : Mm), k + m = 1010 → m < n →
    ∃ ν : Mm, f_X4_bySteps_b2 n x1 x2 (nI k) μ = f_X4_bySteps_b2 1 x1 x2 1010 ν ∧ (∀ c, c ≠ 123 → ν c = μ c) ∧ (∀ j, k ≤ j → j < 1010 → ν 123 j = -1) ∧ ∀ j, j < k → ν 123 j = μ 123 j := by
  intro m
  induction m with
  | zero =>
    intro k n μ hk hn
    obtain ⟨n, rfl⟩ : ∃ q, n = q + 1 := ⟨n - 1, by omega⟩
    refine ⟨μ, ?_, fun _ _ => rfl, fun j h1 h2 => by omega, fun _ _ => rfl⟩
    rw [f_X4_bySteps_b2, l1010, if_pos (ple (by omega) (by omega)), show (1 : Nat) = 0 + 1 from rfl, f_X4_bySteps_b2, l1010, if_pos (ple (by omega) (by omega))]
  | succ m ih =>
    intro k n μ hk hn
    obtain ⟨n, rfl⟩ : ∃ q, n = q + 1 := ⟨n - 1, by omega⟩
    obtain ⟨ν, b1, b2, b3, b4⟩ := ih (k + 1) n (z_up μ 123 k (-1)) (by omega) (by omega)
    refine ⟨ν, ?_, fun c hc => by rw [b2 c hc, z_up_n _ _ _ hc], fun j h1 h2 => ?_, fun j h => ?_⟩
    · rw [f_X4_bySteps_b2, l1010, if_neg (pge (by omega) (by omega))]
      simp (disch := omega) only [pzix, pcl, if_true, pa1]
      exact b1
    · by_cases hj : j = k
      · subst hj; rw [b4 j (by omega), z_up_s, upd_s]
      · exact b3 j (by omega) h2
    · rw [b4 j (by omega), z_up_s, upd_n (by omega)]
theorem m_b67 {ag59 : Int32 → Int32 → Mm → Option (Int32 × Mm)} {x2 x3 : Int32} : ∀ (m k n : Nat) (μ : Mm), k + m = 1010 → m < n →
    ∃ ν : Mm, f_X4_bySteps_b67 ag59 n x2 x3 (nI k) μ = f_X4_bySteps_b93 ag59 z_F x2 x3 101 ν ∧ (∀ c, c ≠ 124 → ν c = μ c) ∧ (∀ j, k ≤ j → j < 1010 → ν 124 j = -1) ∧ ∀ j, j < k → ν 124 j = μ 124 j := by
  intro m
  induction m with
  | zero =>
    intro k n μ hk hn
    obtain ⟨n, rfl⟩ : ∃ q, n = q + 1 := ⟨n - 1, by omega⟩
    refine ⟨μ, ?_, fun _ _ => rfl, fun j h1 h2 => by omega, fun _ _ => rfl⟩
    rw [f_X4_bySteps_b67, l1010, if_pos (ple (by omega) (by omega))]
  | succ m ih =>
    intro k n μ hk hn
    obtain ⟨n, rfl⟩ : ∃ q, n = q + 1 := ⟨n - 1, by omega⟩
    obtain ⟨ν, b1, b2, b3, b4⟩ := ih (k + 1) n (z_up μ 124 k (-1)) (by omega) (by omega)
    refine ⟨ν, ?_, fun c hc => by rw [b2 c hc, z_up_n _ _ _ hc], fun j h1 h2 => ?_, fun j h => ?_⟩
    · rw [f_X4_bySteps_b67, l1010, if_neg (pge (by omega) (by omega))]
      simp (disch := omega) only [pzix, pcl, if_true, pa1]
      exact b1
    · by_cases hj : j = k
      · subst hj; rw [b4 j (by omega), z_up_s, upd_s]
      · exact b3 j (by omega) h2
    · rw [b4 j (by omega), z_up_s, upd_n (by omega)]
theorem qi_b {k : Nat} (l : Nat) (hk : k < 1010) : qi k l < 1010 := by
  have he := (qe_b k l).1
  unfold qi; omega
theorem m_b104 {ag59 : Int32 → Int32 → Mm → Option (Int32 × Mm)} {ag93 : Int32 → Int32 → Int32 → Mm → Option (Int32 × Mm)} {n k l : Nat} {x2 x3 : Int32} {μ : Mm} (hk : k < 1010) (hl : 1 ≤ l ∧ l ≤ 3) (hx : ¬ μ 123 k = -1) :
    f_X4_bySteps_b104 ag59 ag93 (n + 1) x2 x3 (nI k) (nI l) μ = f_X4_bySteps_b104 ag59 ag93 n x2 x3 (nI k) (nI (l + 1)) (z_up μ 124 (qi k l) (qmax (μ 124 (qi k l)) (qcc (μ 123 k) (nI l) (nI (k % 101)) 0))) := by
  have he := qe_b k l
  have hq : 101 * qe k l + (k % 101 - qe k l) < 1010 := qi_b l hk
  rw [f_X4_bySteps_b104, if_neg (show ¬ 3 < nI l from nI_nlt (a := 3) (by omega) (by omega))]
  simp (disch := omega) only [pzix, pcl, if_true]
  rw [if_neg hx, p101d (by omega), p101r (by omega), m_depthBy, zb_of rfl, he.2, m_atLeast0, zb_of rfl, show (if 0 < nI (k % 101) - nI (qe k l) then nI (k % 101) - nI (qe k l) else 0) = qsa (nI (k % 101)) (nI (qe k l)) from rfl, qsa_n (by omega) (by omega), m_copied _ _ _ (nI_le (a := 1) (by omega) (by omega)), zb_of rfl, show (101 : Int32) = nI 101 from rfl, pmul, padd]
  simp (disch := omega) only [pzix, pcl, if_true]
  rw [m_atLeast, zb_of rfl, pa1]
  rfl
theorem m_stl {ag59 : Int32 → Int32 → Mm → Option (Int32 × Mm)} {ag93 : Int32 → Int32 → Int32 → Mm → Option (Int32 × Mm)} {k : Nat} {x2 x3 : Int32} {μ : Mm} {F T : Nat → Int32} (hk : k < 1010) (hF : ∀ j, j < 1010 → μ 123 j = F j) (hT : ∀ j, j < 1010 → μ 124 j = T j) :
    ∃ ν : Mm, f_X4_bySteps_b104 ag59 ag93 z_F x2 x3 (nI k) 1 μ = ag93 x2 x3 (nI (k + 1)) ν ∧ (∀ c, c ≠ 124 → ν c = μ c) ∧ ∀ j, j < 1010 → ν 124 j = kM F k T j := by
  have hFk := hF k hk
  by_cases hx : F k = -1
  · refine ⟨μ, ?_, fun _ _ => rfl, fun j hj => ?_⟩
    · rw [show z_F = 1199 + 1 from rfl, f_X4_bySteps_b104, if_neg (by decide)]
      simp (disch := omega) only [pzix, pcl, if_true]
      rw [if_pos (by rw [hFk]; exact hx), pa1]
    · unfold kM; rw [if_pos hx]; exact hT j hj
  · have hx' : ¬ μ 123 k = -1 := by rw [hFk]; exact hx
    have tr : ∀ (m : Mm) (T : Nat → Int32) (l : Nat), m 123 k = F k → (∀ j, j < 1010 → m 124 j = T j) → ∀ j, j < 1010 → (z_up m 124 (qi k l) (qmax (m 124 (qi k l)) (qcc (m 123 k) (nI l) (nI (k % 101)) 0))) 124 j = k1 F k l T j := fun m T l h1 h2 j hj => by
      rw [z_up_s]
      unfold Jvm.Pilot.CWaxCopiesLaw_law_r8460_65119f.k1
      rw [h1, h2 _ (qi_b l hk)]
      by_cases h : j = qi k l
      · rw [h, upd_s, upd_s]
      · rw [upd_n h, upd_n h]; exact h2 j hj
    have st := fun (n l : Nat) (μ : Mm) h hl => m_b104 (ag59 := ag59) (ag93 := ag93) (n := n) (l := l) (x2 := x2) (x3 := x3) (μ := μ) hk hl h
    have v1 := tr μ T 1 hFk hT
    have v2 := tr _ _ 2 (by rw [z_up_n _ _ _ (by decide)]; exact hFk) v1
    have v3 := tr _ _ 3 (by rw [z_up_n _ _ _ (by decide), z_up_n _ _ _ (by decide)]; exact hFk) v2
    rw [show k1 F k 3 (k1 F k 2 (k1 F k 1 T)) = kM F k T from (if_neg hx).symm] at v3
    refine ⟨_, ?_, fun c hc => ?_, v3⟩
    · rw [show z_F = 1196 + 1 + 1 + 1 + 1 from rfl, show (1 : Int32) = nI 1 from rfl, st _ 1 _ hx' (by decide), st _ 2 _ (by rw [z_up_n _ _ _ (by decide)]; exact hx') (by decide), st _ 3 _ (by rw [z_up_n _ _ _ (by decide), z_up_n _ _ _ (by decide)]; exact hx') (by decide)]
      rw [f_X4_bySteps_b104, if_pos (show (3 : Int32) < nI (3 + 1) by decide), pa1]
    · rw [z_up_n _ _ _ hc, z_up_n _ _ _ hc, z_up_n _ _ _ hc]
theorem m_b93 {ag59 : Int32 → Int32 → Mm → Option (Int32 × Mm)} {x2 x3 : Int32} {F : Nat → Int32} : ∀ (m k n : Nat) (μ : Mm) (T : Nat → Int32), k + m = 1010 → m < n → (∀ j, j < 1010 → μ 123 j = F j) → (∀ j, j < 1010 → μ 124 j = T j) →
    ∃ ν : Mm, f_X4_bySteps_b93 ag59 n x2 x3 (nI k) μ = f_X4_bySteps_b202 ag59 z_F x2 x3 0 ν ∧ (∀ c, c ≠ 124 → ν c = μ c) ∧ ∀ j, j < 1010 → ν 124 j = lp (kM F) m k T j := by
  intro m
  induction m with
  | zero =>
    intro k n μ T hk hn hF hT
    obtain ⟨n, rfl⟩ : ∃ q, n = q + 1 := ⟨n - 1, by omega⟩
    refine ⟨μ, ?_, fun _ _ => rfl, hT⟩
    rw [f_X4_bySteps_b93, l1010, if_pos (ple (by omega) (by omega))]
  | succ m ih =>
    intro k n μ T hk hn hF hT
    obtain ⟨n, rfl⟩ : ∃ q, n = q + 1 := ⟨n - 1, by omega⟩
    obtain ⟨ν1, a1, a2, a3⟩ := m_stl (ag59 := ag59) (ag93 := f_X4_bySteps_b93 ag59 n) (x2 := x2) (x3 := x3) (k := k) (by omega) hF hT
    obtain ⟨ν, b1, b2, b3⟩ := ih (k + 1) n ν1 _ (by omega) (by omega) (fun j hj => by rw [a2 _ (by decide)]; exact hF j hj) a3
    refine ⟨ν, ?_, fun c hc => by rw [b2 c hc, a2 c hc], b3⟩
    rw [f_X4_bySteps_b93, l1010, if_neg (pge (by omega) (by omega)), a1, b1]
theorem m_b202 {ag59 : Int32 → Int32 → Mm → Option (Int32 × Mm)} {x2 x3 : Int32} : ∀ (m k n : Nat) (μ : Mm), k + m = 1010 → m < n →
    ∃ ν : Mm, f_X4_bySteps_b202 ag59 n x2 x3 (nI k) μ = ag59 x2 (x3 + 1) ν ∧ (∀ c, c ≠ 123 → ν c = μ c) ∧ (∀ j, k ≤ j → j < 1010 → ν 123 j = μ 124 j) ∧ ∀ j, j < k → ν 123 j = μ 123 j := by
  intro m
  induction m with
  | zero =>
    intro k n μ hk hn
    obtain ⟨n, rfl⟩ : ∃ q, n = q + 1 := ⟨n - 1, by omega⟩
    refine ⟨μ, ?_, fun _ _ => rfl, fun j h1 h2 => by omega, fun _ _ => rfl⟩
    rw [f_X4_bySteps_b202, l1010, if_pos (ple (by omega) (by omega))]
  | succ m ih =>
    intro k n μ hk hn
    obtain ⟨n, rfl⟩ : ∃ q, n = q + 1 := ⟨n - 1, by omega⟩
    obtain ⟨ν, b1, b2, b3, b4⟩ := ih (k + 1) n (z_up μ 123 k (μ 124 k)) (by omega) (by omega)
    refine ⟨ν, ?_, fun c hc => by rw [b2 c hc, z_up_n _ _ _ hc], fun j h1 h2 => ?_, fun j h => ?_⟩
    · rw [f_X4_bySteps_b202, l1010, if_neg (pge (by omega) (by omega))]
      simp (disch := omega) only [pzix, pcl, if_true, pa1]
      exact b1
    · by_cases hj : j = k
      · subst hj; rw [b4 j (by omega), z_up_s, upd_s]
      · rw [b3 j (by omega) h2, z_up_n _ _ _ (by decide)]
    · rw [b4 j (by omega), z_up_s, upd_n (by omega)]
theorem m_b241 {μ : Mm} {F : Nat → Int32} (hF : ∀ j, j < 1010 → μ 123 j = F j) : ∀ (m k n : Nat) (a : Int32), k + m = 1010 → m < n →
    f_X4_bySteps_b241 n a (nI k) μ = some (lp (fun k a => qmax a (F k)) m k a, μ) := by
  intro m
  induction m with
  | zero =>
    intro k n a hk hn
    obtain ⟨n, rfl⟩ : ∃ q, n = q + 1 := ⟨n - 1, by omega⟩
    rw [f_X4_bySteps_b241, l1010, if_pos (ple (by omega) (by omega))]; rfl
  | succ m ih =>
    intro k n a hk hn
    obtain ⟨n, rfl⟩ : ∃ q, n = q + 1 := ⟨n - 1, by omega⟩
    rw [f_X4_bySteps_b241, l1010, if_neg (pge (by omega) (by omega))]
    simp (disch := omega) only [pzix, pcl, if_true, pa1]
    rw [m_atLeast, zb_of rfl, hF k (by omega)]
    exact ih (k + 1) n _ (by omega) (by omega)
theorem m_b59 {C : Nat} (hC : C < 100) : ∀ (m i n : Nat) (μ : Mm) (F : Nat → Int32), i + m = C → m < n → (∀ j, j < 1010 → μ 123 j = F j) →
    ∃ ν : Mm, f_X4_bySteps_b59 n (nI C) (nI i) μ = some (mxF (itF m F), ν) ∧ ∀ c, c ≠ 123 → c ≠ 124 → ν c = μ c := by
  intro m
  induction m with
  | zero =>
    intro i n μ F hi hn hF
    obtain ⟨n, rfl⟩ : ∃ q, n = q + 1 := ⟨n - 1, by omega⟩
    refine ⟨μ, ?_, fun _ _ _ => rfl⟩
    rw [f_X4_bySteps_b59, if_pos (ple (by omega) (by omega))]
    exact m_b241 hF 1010 0 z_F (-1) rfl (by decide)
  | succ m ih =>
    intro i n μ F hi hn hF
    obtain ⟨n, rfl⟩ : ∃ q, n = q + 1 := ⟨n - 1, by omega⟩
    obtain ⟨ν1, a1, a2, a3, _⟩ := m_b67 (ag59 := f_X4_bySteps_b59 n) (x2 := nI C) (x3 := nI i) 1010 0 z_F μ rfl (by decide)
    obtain ⟨ν2, b1, b2, b3⟩ := m_b93 (ag59 := f_X4_bySteps_b59 n) (x2 := nI C) (x3 := nI i) (F := F) 909 101 z_F ν1 (fun _ => -1) rfl (by decide) (fun j hj => by rw [a2 _ (by decide)]; exact hF j hj) (fun j hj => a3 j (by omega) hj)
    obtain ⟨ν3, d1, d2, d3, _⟩ := m_b202 (ag59 := f_X4_bySteps_b59 n) (x2 := nI C) (x3 := nI i) 1010 0 z_F ν2 rfl (by decide)
    obtain ⟨ν, e1, e2⟩ := ih (i + 1) n ν3 (stepF F) (by omega) (by omega) (fun j hj => by rw [d3 j (by omega) hj]; exact b3 j hj)
    refine ⟨ν, ?_, fun c h1 h2 => by rw [e2 c h1 h2, d2 c h1, b2 c h2, a2 c h2]⟩
    rw [f_X4_bySteps_b59, if_neg (pge (by omega) (by omega)), show (0 : Int32) = nI 0 from rfl, a1, show (101 : Int32) = nI 101 from rfl, b1, show (0 : Int32) = nI 0 from rfl, d1, pa1]
    exact e1
theorem m_steps {μ : Mm} {t C d s : Nat} (ht : t < 24) (hC : C < 100) (hd : 1 ≤ d ∧ d ≤ 9) (hs : s ≤ 100) (h1 : μ 120 (22 + 7 * t) = nI d) (h2 : μ 120 0 = nI s) :
    ∃ ν : Mm, f_X4_bySteps (nI t) (nI C) μ = some (mxF (itF C (zF0 d s (μ 120 (22 + 7 * t + 1)))), ν) ∧ ∀ c, c ≠ 123 → c ≠ 124 → ν c = μ c := by
  obtain ⟨ν1, a1, a2, a3, _⟩ := m_b2 (x1 := nI t) (x2 := nI C) 1010 0 z_F μ rfl (by decide)
  have e120 : ν1 120 = μ 120 := a2 _ (by decide)
  obtain ⟨ν, b1, b2⟩ := m_b59 hC C 0 z_F (z_up ν1 123 (101 * d + s) (μ 120 (22 + 7 * t + 1))) (zF0 d s (μ 120 (22 + 7 * t + 1))) (by omega) (by have := zF1200; omega) (fun j hj => by
    rw [z_up_s]
    unfold zF0
    by_cases h : j = 101 * d + s
    · rw [h, upd_s, upd_s]
    · rw [upd_n h, upd_n h]; exact a3 j (by omega) hj)
  refine ⟨ν, ?_, fun c h1 h2 => by rw [b2 c h1 h2, z_up_n _ _ _ h1, a2 c h1]⟩
  unfold f_X4_bySteps
  rw [show f_X4_bySteps_b2 z_F (nI t) (nI C) 0 μ = _ from a1, show (1 : Nat) = 0 + 1 from rfl, f_X4_bySteps_b2, if_pos (by decide)]
  simp (disch := omega) only [f_X4_at, zb, p22, pa1, pzix, pcl, if_true, e120, h1, h2]
  rw [show (101 : Int32) = nI 101 from rfl, pmul, padd]
  simp (disch := omega) only [pzix, pcl, if_true]
  exact b1
