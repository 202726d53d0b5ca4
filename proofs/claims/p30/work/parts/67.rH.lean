/-! p30, PURE: all that is told, mixed to one number -/
def qprint (st : Nat → Int32) : Int64 := lp (fun c h => (((31 : Int64) * h) + ((100 : Int64) * ((qcp st c 0).toInt64))) + ((qcp st c 4).toInt64)) 6 0 (lp (fun k h => ((31 : Int64) * h) + ((qtp st (k / 7) (k % 7)).toInt64)) 168 0 (lp (fun w h => ((31 : Int64) * h) + ((qnum st w).toInt64)) 12 0 (st 2).toInt64))
theorem qprint_congr {a b : Nat → Int32} (e : ∀ j, j < 190 → a j = b j) : qprint a = qprint b := by
  have h := eqv_of e
  unfold qprint
  rw [e 2 (by decide)]
  rw [show lp (fun w h => ((31 : Int64) * h) + ((qnum a w).toInt64)) 12 0 (b 2).toInt64 = lp (fun w h => ((31 : Int64) * h) + ((qnum b w).toInt64)) 12 0 (b 2).toInt64 from lp_congr _ _ _ (fun j _ _ x => by rw [h.num])]
  generalize lp (fun w h => ((31 : Int64) * h) + ((qnum b w).toInt64)) 12 0 (b 2).toInt64 = z
  rw [show lp (fun k h => ((31 : Int64) * h) + ((qtp a (k / 7) (k % 7)).toInt64)) 168 0 z = lp (fun k h => ((31 : Int64) * h) + ((qtp b (k / 7) (k % 7)).toInt64)) 168 0 z from lp_congr _ _ _ (fun j _ hj x => by rw [h.tp (by omega) (by omega)])]
  exact lp_congr _ _ _ (fun j _ hj x => by rw [h.cp (by omega), h.cp (by omega)])
theorem pdivn {a n : Nat} (ha : a < 2 ^ 31) (hn : 0 < n) (hn2 : n < 2 ^ 31) : nI a / nI n = nI (a / n) := by
  have hq : a / n ≤ a := Nat.div_le_self _ _
  apply Int32.toInt_inj.mp
  rw [i_div (by rw [nI_toInt ha]; omega) (by rw [nI_toInt hn2]; omega), nI_toInt ha, nI_toInt hn2, nI_toInt (by omega)]
  exact (Int.natCast_ediv a n).symm
theorem pr_b70 {μ : Mm} : ∀ (m k n : Nat) (x : Int64), k + m = 6 → m < n → f_L_print_b70 n x (nI k) μ = some (lp (fun c h => (((31 : Int64) * h) + ((100 : Int64) * ((qcp (V μ 0) c 0).toInt64))) + ((qcp (V μ 0) c 4).toInt64)) m k x, μ) := by
  intro m
  induction m with
  | zero =>
    intro k n x hk hn
    obtain ⟨n, rfl⟩ : ∃ q, n = q + 1 := ⟨n - 1, by omega⟩
    rw [f_L_print_b70, if_pos (show (6 : Int32) ≤ nI k from ple (a := 6) (by omega) (by omega))]
    rfl
  | succ m ih =>
    intro k n x hk hn
    obtain ⟨n, rfl⟩ : ∃ q, n = q + 1 := ⟨n - 1, by omega⟩
    rw [f_L_print_b70, if_neg (show ¬ (6 : Int32) ≤ nI k from pge (b := 6) (by omega) (by omega)), show f_L_cylinderOf (nI k) 0 μ = some (qcp (V μ 0) k 0, μ) from l_cp (by omega) (by decide), zb_of rfl, show f_L_cylinderOf (nI k) 4 μ = some (qcp (V μ 0) k 4, μ) from l_cp (by omega) (by decide), zb_of rfl, pa1]
    exact ih (k + 1) n _ (by omega) (by omega)
theorem pr_b35 {μ : Mm} : ∀ (m k n : Nat) (x : Int64), k + m = 168 → m < n → f_L_print_b35 n x (nI k) μ = f_L_print_b70 z_F (lp (fun k h => ((31 : Int64) * h) + ((qtp (V μ 0) (k / 7) (k % 7)).toInt64)) m k x) 0 μ := by
  intro m
  induction m with
  | zero =>
    intro k n x hk hn
    obtain ⟨n, rfl⟩ : ∃ q, n = q + 1 := ⟨n - 1, by omega⟩
    rw [f_L_print_b35, if_pos (show (168 : Int32) ≤ nI k from ple (a := 168) (by omega) (by omega))]
    rfl
  | succ m ih =>
    intro k n x hk hn
    obtain ⟨n, rfl⟩ : ∃ q, n = q + 1 := ⟨n - 1, by omega⟩
    rw [f_L_print_b35, if_neg (show ¬ (168 : Int32) ≤ nI k from pge (b := 168) (by omega) (by omega)), show nI k - nI k / 7 * 7 = nI (k % 7) from prem (n := 7) (by omega) (by decide) (by decide), show nI k / 7 = nI (k / 7) from pdivn (n := 7) (by omega) (by decide) (by decide), l_tp (show k / 7 < 24 by omega) (show k % 7 < 7 by omega), zb_of rfl, pa1]
    exact ih (k + 1) n _ (by omega) (by omega)
theorem pr_b8 {μ : Mm} : ∀ (m k n : Nat) (x : Int64), k + m = 12 → m < n → f_L_print_b8 n x (nI k) μ = f_L_print_b35 z_F (lp (fun w h => ((31 : Int64) * h) + ((qnum (V μ 0) w).toInt64)) m k x) 0 μ := by
  intro m
  induction m with
  | zero =>
    intro k n x hk hn
    obtain ⟨n, rfl⟩ : ∃ q, n = q + 1 := ⟨n - 1, by omega⟩
    rw [f_L_print_b8, if_pos (show (12 : Int32) ≤ nI k from ple (a := 12) (by omega) (by omega))]
    rfl
  | succ m ih =>
    intro k n x hk hn
    obtain ⟨n, rfl⟩ : ∃ q, n = q + 1 := ⟨n - 1, by omega⟩
    rw [f_L_print_b8, if_neg (show ¬ (12 : Int32) ≤ nI k from pge (b := 12) (by omega) (by omega)), l_num (show k < 12 by omega), zb_of rfl, pa1]
    exact ih (k + 1) n _ (by omega) (by omega)
theorem l_print {μ : Mm} : f_L_print μ = some (qprint (V μ 0), μ) := by
  unfold f_L_print
  rw [l_set, zb_of rfl, show f_L_print_b8 z_F (V μ 0 2).toInt64 0 μ = _ from pr_b8 12 0 z_F _ rfl (by decide), show f_L_print_b35 z_F _ 0 μ = _ from pr_b35 168 0 z_F _ rfl (by decide)]
  exact pr_b70 6 0 z_F _ rfl (by decide)
/-- an undo, and what is told then -/
theorem back_ok {μ : Mm} {s : Nat} {x : Nat → Int32} {T : List (Nat → Int32)} (h : Hd μ s (x :: T)) : ∃ ν : Mm, f_L_undo μ = some (nI (s - 1), ν) ∧ f_L_print ν = some (qprint x, ν) ∧ (∀ j, j < 190 → V ν 0 j = x j) ∧ Hd ν (s - 1) T := by
  obtain ⟨ν, e, h1, h2⟩ := hd_undo h
  exact ⟨ν, e, by rw [l_print, qprint_congr h1], h1, h2⟩
theorem s1_nn {s : Nat} (h : s ≤ 6) : ¬ nI (s - 1) < 0 := nI_nlt (b := 0) (by omega) (by omega)
theorem tail_c {μ : Mm} {s : Nat} {x : Nat → Int32} {T : List (Nat → Int32)} (h : Hd μ s (x :: T)) : ∃ ν : Mm, f_L_copies_b195 (qprint x) μ = some (1, ν) ∧ (∀ j, j < 190 → V ν 0 j = x j) ∧ Hd ν (s - 1) T := by
  obtain ⟨ν, e1, e2, h1, h2⟩ := back_ok h
  refine ⟨ν, ?_, h1, h2⟩
  unfold f_L_copies_b195
  rw [e1, zb_of rfl, if_neg (s1_nn h.2.1), e2, zb_of rfl, if_pos ((lg_cmp_eq _ _).mpr rfl)]
theorem tail_s {μ : Mm} {s : Nat} {x : Nat → Int32} {T : List (Nat → Int32)} (h : Hd μ s (x :: T)) : ∃ ν : Mm, f_L_speaks_b93 (qprint x) μ = some (1, ν) ∧ (∀ j, j < 190 → V ν 0 j = x j) ∧ Hd ν (s - 1) T := by
  obtain ⟨ν, e1, e2, h1, h2⟩ := back_ok h
  refine ⟨ν, ?_, h1, h2⟩
  unfold f_L_speaks_b93
  rw [e1, zb_of rfl, if_neg (s1_nn h.2.1), e2, zb_of rfl, if_pos ((lg_cmp_eq _ _).mpr rfl)]
/-- where the law stands between its checks; n: how many calls were made -/
def Lw (n : Nat) (μ : Mm) : Prop := (∃ s, Hd μ s []) ∧ Iv n (V μ 0)
theorem Hd.nil {μ : Mm} {s : Nat} {T : List (Nat → Int32)} (h : Hd μ s T) : Hd μ s [] := by
  obtain ⟨h1, h2, h3, _, p, h5, _⟩ := h
  exact ⟨h1, h2, h3, Nat.zero_le _, p, h5, fun i x hi => by simp at hi⟩
theorem Lw.of {n : Nat} {μ ν : Mm} {s : Nat} {T : List (Nat → Int32)} (h : Lw n μ) (hd : Hd ν s T) (e : ∀ j, j < 190 → V ν 0 j = V μ 0 j) : Lw n ν := ⟨⟨s, hd.nil⟩, h.2.congr e⟩
