/-! PURE: states taken over -/
theorem z_cp_s (μ : Mm) (k1 k0 n : Nat) : z_cp μ k1 k0 n k1 = va_cpy (μ k0) (μ k1) 0 0 n := z_row_s _ _ _
theorem z_cp_n (μ : Mm) {k1 k0 n a : Nat} (h : a ≠ k1) : z_cp μ k1 k0 n a = μ a := z_row_n _ _ h
theorem cpy_in (f g : Nat → Int32) {n i : Nat} (h : i < n) : va_cpy f g 0 0 n i = f i := by
  unfold va_cpy
  rw [if_pos (by omega)]
  exact congrArg f (by omega)
theorem w10 {P : Nat → Prop} (h0 : P 0) (h1 : P 1) (h2 : P 2) (h3 : P 3) (h4 : P 4) (h5 : P 5) (h6 : P 6) (h7 : P 7) (h8 : P 8) (h9 : P 9) : ∀ w, w < 10 → P w := fun w hw => match w, hw with | 0, _ => h0 | 1, _ => h1 | 2, _ => h2 | 3, _ => h3 | 4, _ => h4 | 5, _ => h5 | 6, _ => h6 | 7, _ => h7 | 8, _ => h8 | 9, _ => h9 | n + 10, h => absurd h (by omega)
/-- rows 1 .. 9 of a Wax copied -/
def w_rows (μ : Mm) (k x : Nat) : Mm := z_cp (z_cp (z_cp (z_cp (z_cp (z_cp (z_cp (z_cp (z_cp μ (k + 1) (x + 1) 24) (k + 2) (x + 2) 24) (k + 3) (x + 3) 24) (k + 4) (x + 4) 24) (k + 5) (x + 5) 24) (k + 6) (x + 6) 24) (k + 7) (x + 7) 24) (k + 8) (x + 8) 6) (k + 9) (x + 9) 6
def w_flds (m : Mm) (k x : Nat) : Mm := z_up (z_up (z_up (z_up (z_up (z_up (z_up (z_up (z_up (z_up m k 9 (m x 9)) k 10 (m x 10)) k 11 (m x 11)) k 12 (m x 12)) k 13 (m x 13)) k 14 (m x 14)) k 15 (m x 15)) k 16 (m x 16)) k 17 (m x 17)) k 18 (m x 18)
theorem c_to {μ : Mm} {k x : Nat} (hk : k % 10 = 0 ∧ k < 90) (hx : x % 10 = 0 ∧ x < 90) (hne : k ≠ x) : f_X2_takeOver k x μ = some ((), w_flds (w_rows μ k x) k x) := by
  unfold f_X2_takeOver
  rw [if_pos hx, if_pos hk]
  simp (disch := omega) only [zm, z_up_n]
  rfl
theorem w_rows_o {μ : Mm} {k x c : Nat} (h : c < k + 1 ∨ k + 10 ≤ c) : w_rows μ k x c = μ c := by
  unfold w_rows
  simp (disch := omega) only [z_cp_n]
theorem w_flds_o {m : Mm} {k x c : Nat} (h : c ≠ k) : w_flds m k x c = m c := by
  unfold w_flds
  simp (disch := omega) only [z_up_n]
theorem w_flds_k {m : Mm} {k x : Nat} : ∀ i, i < 10 → w_flds m k x k (9 + i) = m x (9 + i) := by
  unfold w_flds
  refine w10 ?_ ?_ ?_ ?_ ?_ ?_ ?_ ?_ ?_ ?_ <;> simp (disch := omega) only [z_up_s, upd_s, upd_n, Nat.reduceAdd]
theorem w_rows_k {μ : Mm} {k x : Nat} (hk : k % 10 = 0) (hx : x % 10 = 0) (hne : k ≠ x) : ∀ c, c < 7 → ∀ i, i < 24 → w_rows μ k x (k + 1 + c) i = μ (x + 1 + c) i := by
  unfold w_rows
  refine w7 ?_ ?_ ?_ ?_ ?_ ?_ ?_ <;> intro i hi <;> simp (disch := omega) only [Nat.add_assoc, Nat.reduceAdd, z_cp_n, z_cp_s, cpy_in]
theorem w_rows_8 {μ : Mm} {k x : Nat} (hk : k % 10 = 0) (hx : x % 10 = 0) (hne : k ≠ x) {i : Nat} (hi : i < 6) : w_rows μ k x (k + 8) i = μ (x + 8) i ∧ w_rows μ k x (k + 9) i = μ (x + 9) i := by
  unfold w_rows
  constructor <;> simp (disch := omega) only [z_cp_n, z_cp_s, cpy_in]
theorem V_to {μ : Mm} {k x : Nat} (hk : k % 10 = 0) (hx : x % 10 = 0) (hne : k ≠ x) {j : Nat} (hj : j < 190) : V (w_flds (w_rows μ k x) k x) k j = V μ x j := by
  unfold V
  by_cases h1 : j < 10
  · rw [if_pos h1, if_pos h1, w_flds_k j h1, w_rows_o (by omega)]
  · rw [if_neg h1, if_neg h1]
    by_cases h2 : j < 22
    · rw [if_pos h2, if_pos h2]
      by_cases h3 : j % 2 = 0
      · rw [if_pos h3, if_pos h3, w_flds_o (by omega), (w_rows_8 hk hx hne (by omega)).1]
      · rw [if_neg h3, if_neg h3, w_flds_o (by omega), (w_rows_8 hk hx hne (by omega)).2]
    · rw [if_neg h2, if_neg h2, w_flds_o (by omega), w_rows_k hk hx hne _ (by omega) _ (by omega)]
/-- now the copies' effect, in one -/
theorem c_takeOver (μ : Mm) {k x : Nat} (hk : k % 10 = 0 ∧ k < 90) (hx : x % 10 = 0 ∧ x < 90) (hne : k ≠ x) : ∃ ν : Mm, f_X2_takeOver k x μ = some ((), ν) ∧ (∀ j, j < 190 → V ν k j = V μ x j) ∧ ∀ c, c < k ∨ k + 10 ≤ c → ν c = μ c :=
  ⟨_, c_to hk hx hne, fun _ hj => V_to hk.1 hx.1 hne hj, fun c hc => by rw [w_flds_o (by omega), w_rows_o (by omega)]⟩
theorem p190 (a k : Nat) : (190 : Int32) * nI a + nI k = nI (190 * a + k) := by
  rw [show (190 : Int32) = nI 190 from rfl, pmul, padd]
