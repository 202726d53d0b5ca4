/-! PURE: states taken over -/
theorem z_cp_s (μ : Mm) (k1 k0 n : Nat) : z_cp μ k1 k0 n k1 = va_cpy (μ k0) (μ k1) 0 0 n := z_row_s _ _ _
theorem z_cp_n (μ : Mm) {k1 k0 n a : Nat} (h : a ≠ k1) : z_cp μ k1 k0 n a = μ a := z_row_n _ _ h
theorem cpy_in (f g : Nat → Int32) {n i : Nat} (h : i < n) : va_cpy f g 0 0 n i = f i := by
  unfold va_cpy
  rw [if_pos (by omega)]
  exact congrArg f (by omega)
theorem w10 {P : Nat → Prop} (h0 : P 0) (h1 : P 1) (h2 : P 2) (h3 : P 3) (h4 : P 4) (h5 : P 5) (h6 : P 6) (h7 : P 7) (h8 : P 8) (h9 : P 9) : ∀ w, w < 10 → P w := fun w hw => match w, hw with | 0, _ => h0 | 1, _ => h1 | 2, _ => h2 | 3, _ => h3 | 4, _ => h4 | 5, _ => h5 | 6, _ => h6 | 7, _ => h7 | 8, _ => h8 | 9, _ => h9 | n + 10, h => absurd h (by omega)
/-- rows 1 .. 9 of a Wax copied -/
def w_rows (μ : Mm) (k x : Nat) : Mm := z_cp (z_cp (z_cp (z_cp (z_cp (z_cp (z_cp (z_cp (z_cp μ (k + 1) (x + 1) 24) (k + 2) (x + 2) 24) (k + 3) (x + 3) 24) (k + 4) (x + 4) 24) (k + 5) (x + 5) 24) (k + 6) (x + 6) 24) (k + 7) (x + 7) 24) (k + 8) (x + 8) 6) (k + 9) (x + 9) 6
def w_flds (m : Mm) (k x : Nat) : Mm := z_up (z_up (z_up (z_up (z_up (z_up (z_up (z_up (z_up (z_up m k 9 (m x 9)) k 10 (m x 10)) k 11 (m x 11)) k 12 (m x 12)) k 13 (m x 13)) k 14 (m x 14)) k 15 (m x 15)) k 16 (m x 16)) k 17 (m x 17)) k 18 (m x 18)
theorem c_to {μ : Mm} {k x : Nat} (hk : k % 10 = 0 ∧ k < 90) (hx : x % 10 = 0 ∧ x < 90) (hne : k ≠ x) : f_X2_takeOver k x μ = some ((), w_flds (w_rows μ k x) k x) := by
  unfold f_X2_takeOver
  rw [if_pos hx, if_pos hk]
  simp (disch := omega) only [zm, z_up_n]
  rfl
theorem w_rows_o {μ : Mm} {k x c : Nat} (h : c < k + 1 ∨ k + 10 ≤ c) : w_rows μ k x c = μ c := by
  unfold w_rows
  simp (disch := omega) only [z_cp_n]
theorem w_flds_o {m : Mm} {k x c : Nat} (h : c ≠ k) : w_flds m k x c = m c := by
  unfold w_flds
  simp (disch := omega) only [z_up_n]
theorem w_flds_k {m : Mm} {k x : Nat} : ∀ i, i < 10 → w_flds m k x k (9 + i) = m x (9 + i) := by
  unfold w_flds
  refine w10 ?_ ?_ ?_ ?_ ?_ ?_ ?_ ?_ ?_ ?_ <;> simp (disch := omega) only [z_up_s, upd_s, upd_n, Nat.reduceAdd]
theorem w_rows_k {μ : Mm} {k x : Nat} (hk : k % 10 = 0) (hx : x % 10 = 0) (hne : k ≠ x) : ∀ c, c < 7 → ∀ i, i < 24 → w_rows μ k x (k + 1 + c) i = μ (x + 1 + c) i := by
  unfold w_rows
  refine w7 ?_ ?_ ?_ ?_ ?_ ?_ ?_ <;> intro i hi <;> simp (disch := omega) only [Nat.add_assoc, Nat.reduceAdd, z_cp_n, z_cp_s, cpy_in]
theorem w_rows_8 {μ : Mm} {k x : Nat} (hk : k % 10 = 0) (hx : x % 10 = 0) (hne : k ≠ x) {i : Nat} (hi : i < 6) : w_rows μ k x (k + 8) i = μ (x + 8) i ∧ w_rows μ k x (k + 9) i = μ (x + 9) i := by
  unfold w_rows
  constructor <;> simp (disch := omega) only [z_cp_n, z_cp_s, cpy_in]
theorem V_to {μ : Mm} {k x : Nat} (hk : k % 10 = 0) (hx : x % 10 = 0) (hne : k ≠ x) {j : Nat} (hj : j < 190) : V (w_flds (w_rows μ k x) k x) k j = V μ x j := by
  unfold V
  by_cases h1 : j < 10
  · rw [if_pos h1, if_pos h1, w_flds_k j h1, w_rows_o (by omega)]
  · rw [if_neg h1, if_neg h1]
    by_cases h2 : j < 22
    · rw [if_pos h2, if_pos h2]
      by_cases h3 : j % 2 = 0
      · rw [if_pos h3, if_pos h3, w_flds_o (by omega), (w_rows_8 hk hx hne (by omega)).1]
      · rw [if_neg h3, if_neg h3, w_flds_o (by omega), (w_rows_8 hk hx hne (by omega)).2]
    · rw [if_neg h2, if_neg h2, w_flds_o (by omega), w_rows_k hk hx hne _ (by omega) _ (by omega)]
/-- now the copies' effect, in one -/
theorem c_takeOver (μ : Mm) {k x : Nat} (hk : k % 10 = 0 ∧ k < 90) (hx : x % 10 = 0 ∧ x < 90) (hne : k ≠ x) : ∃ ν : Mm, f_X2_takeOver k x μ = some ((), ν) ∧ (∀ j, j < 190 → V ν k j = V μ x j) ∧ ∀ c, c < k ∨ k + 10 ≤ c → ν c = μ c :=
  ⟨_, c_to hk hx hne, fun _ hj => V_to hk.1 hx.1 hne hj, fun c hc => by rw [w_flds_o (by omega), w_rows_o (by omega)]⟩
theorem p190 (a k : Nat) : (190 : Int32) * nI a + nI k = nI (190 * a + k) := by
  rw [show (190 : Int32) = nI 190 from rfl, pmul, padd]
theorem m_copies_l {μ : Mm} {a b : Nat} (ha : a < 9) (hb : b < 9) (hne : a ≠ b) : ∀ (m k n : Nat) (ν : Mm), k + m = 190 → m < n → (∀ c, c ≠ 120 → ν c = μ c) → (∀ j, ν 120 j = if 190 * b ≤ j ∧ j < 190 * b + k then μ 120 (190 * a + (j - 190 * b)) else μ 120 j) →
    ∃ ν' : Mm, f_X4_copies_b2 n (nI a) (nI b) (nI k) ν = some ((), ν') ∧ (∀ c, c ≠ 120 → ν' c = μ c) ∧ ∀ j, ν' 120 j = if 190 * b ≤ j ∧ j < 190 * b + 190 then μ 120 (190 * a + (j - 190 * b)) else μ 120 j := by
  intro m
  induction m with
  | zero =>
    intro k n ν hk hn h1 h2
    obtain ⟨n, rfl⟩ : ∃ q, n = q + 1 := ⟨n - 1, by omega⟩
    rw [f_X4_copies_b2, l190, if_pos (ple (by omega) (by omega))]
    refine ⟨ν, rfl, h1, fun j => ?_⟩
    rw [h2 j, show k = 190 by omega]
  | succ m ih =>
    intro k n ν hk hn h1 h2
    obtain ⟨n, rfl⟩ : ∃ q, n = q + 1 := ⟨n - 1, by omega⟩
    rw [f_X4_copies_b2, l190, if_neg (pge (by omega) (by omega)), ← l190]
    simp (disch := omega) only [p190, pzix, pcl, if_true, pa1]
    refine ih (k + 1) n _ (by omega) (by omega) (fun c hc => by rw [z_up_n _ _ _ hc, h1 c hc]) (fun j => ?_)
    rw [z_up_s]
    by_cases hj : j = 190 * b + k
    · rw [hj, upd_s, h2, if_neg (by omega), if_pos (by omega)]
      exact congrArg _ (by omega)
    · rw [upd_n hj, h2 j]
      by_cases h3 : 190 * b ≤ j ∧ j < 190 * b + k
      · rw [if_pos h3, if_pos (by omega)]
      · rw [if_neg h3, if_neg (by omega)]
theorem m_copies (μ : Mm) {a b : Nat} (ha : a < 9) (hb : b < 9) (hne : a ≠ b) : ∃ ν : Mm, f_X4_copies (nI a) (nI b) μ = some ((), ν) ∧ (∀ c, c ≠ 120 → ν c = μ c) ∧ (∀ j, j < 190 → ν 120 (190 * b + j) = μ 120 (190 * a + j)) ∧ ∀ j, j < 190 * b ∨ 190 * b + 190 ≤ j → ν 120 j = μ 120 j := by
  obtain ⟨ν, e, h1, h2⟩ := m_copies_l (μ := μ) ha hb hne 190 0 z_F μ rfl (by decide) (fun _ _ => rfl) (fun j => by rw [if_neg (by omega)])
  refine ⟨ν, e, h1, fun j hj => ?_, fun j hj => ?_⟩
  · rw [h2, if_pos (by omega)]
    exact congrArg _ (by omega)
  · rw [h2, if_neg (by omega)]
/-- the model's saves -/
theorem m_saves (μ : Mm) {s : Nat} (hs : s ≤ 6) (h1 : μ 119 1 = nI s) : ∃ ν : Mm, f_X4_saves μ = some ((), ν) ∧ ν 119 1 = nI (if s < 6 then s + 1 else 6) ∧ (∀ k, k ≠ 1 → ν 119 k = μ 119 k) ∧ (∀ c, c ≠ 119 → c ≠ 120 → ν c = μ c) ∧
    (∀ i, i + 1 < (if s < 6 then s + 1 else 6) → ∀ j, j < 190 → ν 120 (190 * (i + 1) + j) = μ 120 (190 * ((if s < 6 then i else i + 1) + 1) + j)) ∧
    (∀ j, j < 190 → ν 120 (190 * (if s < 6 then s + 1 else 6) + j) = μ 120 j) ∧ (∀ j, j < 190 → ν 120 j = μ 120 j) ∧ ∀ j, 1330 ≤ j → ν 120 j = μ 120 j := by
  have tail : ∀ (ν : Mm) (r : Nat), r < 6 → ν 119 1 = nI r → ∃ ν', f_X4_saves_b41 ν = some ((), ν') ∧ ν' 119 1 = nI (r + 1) ∧ (∀ k, k ≠ 1 → ν' 119 k = ν 119 k) ∧ (∀ c, c ≠ 119 → c ≠ 120 → ν' c = ν c) ∧ (∀ j, j < 190 → ν' 120 (190 * (r + 1) + j) = ν 120 j) ∧ ∀ j, j < 190 * (r + 1) ∨ 190 * (r + 1) + 190 ≤ j → ν' 120 j = ν 120 j := by
    intro ν r hr hr1
    obtain ⟨ν', e, e1, e2, e3⟩ := m_copies (z_up ν 119 1 (nI (r + 1))) (a := 0) (b := r + 1) (by omega) (by omega) (by omega)
    refine ⟨ν', ?_, ?_, fun k hk => ?_, fun c hc1 hc2 => ?_, fun j hj => ?_, fun j hj => ?_⟩
    · unfold f_X4_saves_b41
      rw [hr1, pa1, z_up_s, upd_s]
      rw [show (0 : Int32) = nI 0 from rfl, e]
      rfl
    · rw [e1 119 (by decide), z_up_s, upd_s]
    · rw [e1 119 (by decide), z_up_s, upd_n hk]
    · rw [e1 c hc2, z_up_n _ _ _ hc1]
    · rw [e2 j hj, z_up_n _ _ _ (by decide)]
      exact congrArg _ (by omega)
    · rw [e3 j hj, z_up_n _ _ _ (by decide)]
  unfold f_X4_saves
  by_cases h6 : s < 6
  · rw [h1, if_neg (show ¬ nI s = 6 from fun q => by have := (pinj (a := s) (b := 6) (by omega) (by omega)).mp q; omega)]
    obtain ⟨ν, e, e1, e2, e3, e4, e5⟩ := tail μ s h6 h1
    refine ⟨ν, e, ?_, e2, e3, fun i hi j hj => ?_, fun j hj => ?_, fun j hj => ?_, fun j hj => ?_⟩
    · rw [if_pos h6, e1]
    · rw [if_pos h6] at hi
      rw [if_pos h6, e5 _ (by omega)]
    · rw [if_pos h6, e4 j hj]
    · exact e5 j (by omega)
    · exact e5 j (by omega)
  · have h6' : s = 6 := by omega
    subst h6'
    rw [h1, if_pos (show nI 6 = (6 : Int32) from rfl)]
    have c1 : ∀ (n k : Nat) (ν : Mm), 0 < n → k + 1 < 7 → 0 < k → ∃ ν', f_X4_saves_b11 n (nI k) ν = f_X4_saves_b11 (n - 1) (nI (k + 1)) ν' ∧ (∀ c, c ≠ 120 → ν' c = ν c) ∧ (∀ j, j < 190 → ν' 120 (190 * k + j) = ν 120 (190 * (k + 1) + j)) ∧ ∀ j, j < 190 * k ∨ 190 * k + 190 ≤ j → ν' 120 j = ν 120 j := by
      intro n k ν hn hk hk0
      obtain ⟨n, rfl⟩ : ∃ q, n = q + 1 := ⟨n - 1, by omega⟩
      obtain ⟨ν', e, e1, e2, e3⟩ := m_copies ν (a := k + 1) (b := k) (by omega) (by omega) (by omega)
      refine ⟨ν', ?_, e1, e2, e3⟩
      rw [f_X4_saves_b11, l6, if_neg (pge (by omega) (by omega)), pa1, e]
      rfl
    obtain ⟨ν1, a1, b1, d1, g1⟩ := c1 z_F 1 μ (by decide) (by decide) (by decide)
    obtain ⟨ν2, a2, b2, d2, g2⟩ := c1 (z_F - 1) 2 ν1 (by decide) (by decide) (by decide)
    obtain ⟨ν3, a3, b3, d3, g3⟩ := c1 (z_F - 1 - 1) 3 ν2 (by decide) (by decide) (by decide)
    obtain ⟨ν4, a4, b4, d4, g4⟩ := c1 (z_F - 1 - 1 - 1) 4 ν3 (by decide) (by decide) (by decide)
    obtain ⟨ν5, a5, b5, d5, g5⟩ := c1 (z_F - 1 - 1 - 1 - 1) 5 ν4 (by decide) (by decide) (by decide)
    have hc : ∀ c, c ≠ 120 → ν5 c = μ c := fun c h => by rw [b5 c h, b4 c h, b3 c h, b2 c h, b1 c h]
    have h5 : (z_up ν5 119 1 (ν5 119 1 - 1)) 119 1 = nI 5 := by rw [z_up_s, upd_s, hc 119 (by decide), h1]; rfl
    obtain ⟨ν, e, e1, e2, e3, e4, e5⟩ := tail (z_up ν5 119 1 (ν5 119 1 - 1)) 5 (by decide) h5
    have hb : ∀ j, (z_up ν5 119 1 (ν5 119 1 - 1)) 120 j = ν5 120 j := fun j => by rw [z_up_n _ _ _ (by decide)]
    refine ⟨ν, ?_, e1, fun k hk => ?_, fun c h9 h0 => ?_, fun i hi j hj => ?_, fun j hj => ?_, fun j hj => ?_, fun j hj => ?_⟩
    · rw [show (1 : Int32) = nI 1 from rfl, a1, a2, a3, a4, a5]
      rw [show z_F - 1 - 1 - 1 - 1 - 1 = 1194 + 1 from rfl, f_X4_saves_b11, l6, if_pos (ple (by decide) (by decide))]
      exact e
    · rw [e2 k hk, z_up_s, upd_n hk, hc 119 (by decide)]
    · rw [e3 c h9 h0, z_up_n _ _ _ h9, hc c h0]
    · rw [if_neg h6] at hi
      rw [if_neg h6, e5 _ (by omega), hb]
      have hi5 : i = 0 ∨ i = 1 ∨ i = 2 ∨ i = 3 ∨ i = 4 := by omega
      rcases hi5 with rfl | rfl | rfl | rfl | rfl
      · rw [g5 _ (by omega), g4 _ (by omega), g3 _ (by omega), g2 _ (by omega), d1 j hj]
      · rw [g5 _ (by omega), g4 _ (by omega), g3 _ (by omega), d2 j hj, g1 _ (by omega)]
      · rw [g5 _ (by omega), g4 _ (by omega), d3 j hj, g2 _ (by omega), g1 _ (by omega)]
      · rw [g5 _ (by omega), d4 j hj, g3 _ (by omega), g2 _ (by omega), g1 _ (by omega)]
      · rw [d5 j hj, g4 _ (by omega), g3 _ (by omega), g2 _ (by omega), g1 _ (by omega)]
    · rw [if_neg h6, e4 j hj, hb, g5 _ (by omega), g4 _ (by omega), g3 _ (by omega), g2 _ (by omega), g1 _ (by omega)]
    · rw [e5 _ (by omega), hb, g5 _ (by omega), g4 _ (by omega), g3 _ (by omega), g2 _ (by omega), g1 _ (by omega)]
    · rw [e5 _ (by omega), hb, g5 _ (by omega), g4 _ (by omega), g3 _ (by omega), g2 _ (by omega), g1 _ (by omega)]
