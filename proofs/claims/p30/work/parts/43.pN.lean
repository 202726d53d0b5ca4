/-! PURE: all levers -/
def qall : Nat → Int32 → Int32 → Int32 → Int32
  | 0, _, c, _ => c
  | m + 1, d, c, s => qmax (qmax (qmax (-1) (qall m (qcd d 1) (qcc c 1 s 0) (qsa s (qcd d 1)))) (qall m (qcd d 2) (qcc c 2 s 0) (qsa s (qcd d 2)))) (qall m (qcd d 3) (qcc c 3 s 0) (qsa s (qcd d 3)))
def qpath : Nat → Nat → Int32 → Int32 → Int32 → Int32
  | 0, _, _, c, _ => c
  | m + 1, left, d, c, s => qpath m (left / 3) (qcd d (nI (1 + left % 3))) (qcc c (nI (1 + left % 3)) s 0) (qsa s (qcd d (nI (1 + left % 3))))
theorem le_qmax_l (a b : Int32) : a ≤ qmax a b := by
  unfold qmax
  split
  · rename_i h; rw [i_le]; rw [i_lt] at h; omega
  · rw [i_le]; omega
theorem le_qmax_r (a b : Int32) : b ≤ qmax a b := by
  unfold qmax
  split
  · rw [i_le]; omega
  · rename_i h; rw [i_le]; rw [i_lt] at h; omega
theorem qmax_or (a b : Int32) : qmax a b = a ∨ qmax a b = b := by
  unfold qmax
  split
  · exact Or.inr rfl
  · exact Or.inl rfl
theorem le_tr {a b c : Int32} (h1 : a ≤ b) (h2 : b ≤ c) : a ≤ c := by rw [i_le] at *; omega
theorem le_an {a b : Int32} (h1 : a ≤ b) (h2 : b ≤ a) : a = b := by rw [i_eq]; rw [i_le] at *; omega
theorem lpmax (f : Nat → Int32) : ∀ (m k : Nat) (a : Int32), a ≤ lp (fun j a => qmax a (f j)) m k a ∧ (∀ j, k ≤ j → j < k + m → f j ≤ lp (fun j a => qmax a (f j)) m k a) ∧ (lp (fun j a => qmax a (f j)) m k a = a ∨ ∃ j, k ≤ j ∧ j < k + m ∧ lp (fun j a => qmax a (f j)) m k a = f j) := by
  intro m
  induction m with
  | zero => intro k a; exact ⟨by rw [i_le]; exact Int.le_refl _, fun j h1 h2 => absurd h2 (by omega), Or.inl rfl⟩
  | succ m ih =>
    intro k a
    obtain ⟨h1, h2, h3⟩ := ih (k + 1) (qmax a (f k))
    refine ⟨le_tr (le_qmax_l a (f k)) h1, fun j hj1 hj2 => ?_, ?_⟩
    · by_cases e : j = k
      · rw [e]; exact le_tr (le_qmax_r a (f k)) h1
      · exact h2 j (by omega) (by omega)
    · rcases h3 with h3 | ⟨j, a1, a2, a3⟩
      · rcases qmax_or a (f k) with h4 | h4
        · exact Or.inl (h3.trans h4)
        · exact Or.inr ⟨k, Nat.le_refl _, by omega, h3.trans h4⟩
      · exact Or.inr ⟨j, by omega, by omega, a3⟩

theorem qcc_0 (c l s f : Int32) : 0 ≤ (qcc c l s f).toInt := by
  unfold qcc
  split
  · rename_i h; rw [i_lt, i_0] at h; omega
  · rw [i_0]; exact Int.le_refl _
theorem qpath_s (m j i : Nat) (hi : i < 3) (d c s : Int32) : qpath (m + 1) (3 * j + i) d c s = qpath m j (qcd d (nI (1 + i))) (qcc c (nI (1 + i)) s 0) (qsa s (qcd d (nI (1 + i)))) := by
  show qpath m ((3 * j + i) / 3) (qcd d (nI (1 + (3 * j + i) % 3))) (qcc c (nI (1 + (3 * j + i) % 3)) s 0) (qsa s (qcd d (nI (1 + (3 * j + i) % 3)))) = _
  rw [show (3 * j + i) / 3 = j by omega, show (3 * j + i) % 3 = i by omega]
theorem qall_path : ∀ (m : Nat) (d c s : Int32), 0 ≤ c.toInt → lp (fun j a => qmax a (qpath m j d c s)) (3 ^ m) 0 (-1) = qall m d c s := by
  intro m
  induction m with
  | zero =>
    intro d c s hc
    show qmax (-1) c = c
    unfold qmax
    exact if_pos (by rw [i_lt, show (-1 : Int32).toInt = -1 by decide]; omega)
  | succ m ih =>
    intro d c s hc
    have v : ∀ i, i < 3 → lp (fun j a => qmax a (qpath m j (qcd d (nI (1 + i))) (qcc c (nI (1 + i)) s 0) (qsa s (qcd d (nI (1 + i)))))) (3 ^ m) 0 (-1) = qall m (qcd d (nI (1 + i))) (qcc c (nI (1 + i)) s 0) (qsa s (qcd d (nI (1 + i)))) := fun i _ => ih _ _ _ (qcc_0 _ _ _ _)
    obtain ⟨a1, a2, a3⟩ := lpmax (fun j => qpath (m + 1) j d c s) (3 ^ (m + 1)) 0 (-1)
    generalize hM : lp (fun j a => qmax a (qpath (m + 1) j d c s)) (3 ^ (m + 1)) 0 (-1) = M at a1 a2 a3
    have e1 := v 0 (by decide)
    have e2 := v 1 (by decide)
    have e3 := v 2 (by decide)
    have b1 := lpmax (fun j => qpath m j (qcd d (nI (1 + 0))) (qcc c (nI (1 + 0)) s 0) (qsa s (qcd d (nI (1 + 0))))) (3 ^ m) 0 (-1)
    have b2 := lpmax (fun j => qpath m j (qcd d (nI (1 + 1))) (qcc c (nI (1 + 1)) s 0) (qsa s (qcd d (nI (1 + 1))))) (3 ^ m) 0 (-1)
    have b3 := lpmax (fun j => qpath m j (qcd d (nI (1 + 2))) (qcc c (nI (1 + 2)) s 0) (qsa s (qcd d (nI (1 + 2))))) (3 ^ m) 0 (-1)
    rw [e1] at b1
    rw [e2] at b2
    rw [e3] at b3
    have hq : qall (m + 1) d c s = qmax (qmax (qmax (-1) (qall m (qcd d (nI (1 + 0))) (qcc c (nI (1 + 0)) s 0) (qsa s (qcd d (nI (1 + 0)))))) (qall m (qcd d (nI (1 + 1))) (qcc c (nI (1 + 1)) s 0) (qsa s (qcd d (nI (1 + 1)))))) (qall m (qcd d (nI (1 + 2))) (qcc c (nI (1 + 2)) s 0) (qsa s (qcd d (nI (1 + 2))))) := rfl
    rw [hq]
    generalize qall m (qcd d (nI (1 + 0))) (qcc c (nI (1 + 0)) s 0) (qsa s (qcd d (nI (1 + 0)))) = v1 at b1 ⊢
    generalize qall m (qcd d (nI (1 + 1))) (qcc c (nI (1 + 1)) s 0) (qsa s (qcd d (nI (1 + 1)))) = v2 at b2 ⊢
    generalize qall m (qcd d (nI (1 + 2))) (qcc c (nI (1 + 2)) s 0) (qsa s (qcd d (nI (1 + 2)))) = v3 at b3 ⊢
    have hp : 3 ^ (m + 1) = 3 * 3 ^ m := by rw [Nat.pow_succ, Nat.mul_comm]
    refine le_an ?_ ?_
    · have l1 : v1 ≤ qmax (qmax (qmax (-1) v1) v2) v3 := le_tr (le_qmax_r _ _) (le_tr (le_qmax_l _ _) (le_qmax_l _ _))
      have l2 : v2 ≤ qmax (qmax (qmax (-1) v1) v2) v3 := le_tr (le_qmax_r _ _) (le_qmax_l _ _)
      have l3 : v3 ≤ qmax (qmax (qmax (-1) v1) v2) v3 := le_qmax_r _ _
      have l0 : -1 ≤ qmax (qmax (qmax (-1) v1) v2) v3 := le_tr (le_qmax_l _ _) (le_tr (le_qmax_l _ _) (le_qmax_l _ _))
      rcases a3 with a3 | ⟨j, j1, j2, a3⟩
      · rw [a3]; exact l0
      · rw [a3]
        rw [hp] at j2
        have hj : j = 3 * (j / 3) + j % 3 := by omega
        have h3 : j % 3 < 3 := Nat.mod_lt _ (by decide)
        have hlt : j / 3 < 3 ^ m := by omega
        show qpath (m + 1) j d c s ≤ _
        rw [hj, qpath_s m (j / 3) (j % 3) h3]
        rcases (show j % 3 = 0 ∨ j % 3 = 1 ∨ j % 3 = 2 by omega) with h | h | h <;> rw [h]
        · exact le_tr (b1.2.1 (j / 3) (by omega) (by omega)) l1
        · exact le_tr (b2.2.1 (j / 3) (by omega) (by omega)) l2
        · exact le_tr (b3.2.1 (j / 3) (by omega) (by omega)) l3
    · have g1 : v1 ≤ M := by
        rcases b1.2.2 with h | ⟨j, j1, j2, h⟩
        · rw [h]; exact a1
        · rw [h]
          have := a2 (3 * j + 0) (by omega) (by rw [hp]; omega)
          rw [qpath_s m j 0 (by decide)] at this
          exact this
      have g2 : v2 ≤ M := by
        rcases b2.2.2 with h | ⟨j, j1, j2, h⟩
        · rw [h]; exact a1
        · rw [h]
          have := a2 (3 * j + 1) (by omega) (by rw [hp]; omega)
          rw [qpath_s m j 1 (by decide)] at this
          exact this
      have g3 : v3 ≤ M := by
        rcases b3.2.2 with h | ⟨j, j1, j2, h⟩
        · rw [h]; exact a1
        · rw [h]
          have := a2 (3 * j + 2) (by omega) (by rw [hp]; omega)
          rw [qpath_s m j 2 (by decide)] at this
          exact this
      rcases qmax_or (qmax (qmax (-1) v1) v2) v3 with h | h <;> rw [h]
      · rcases qmax_or (qmax (-1) v1) v2 with h | h <;> rw [h]
        · rcases qmax_or (-1) v1 with h | h <;> rw [h]
          · exact a1
          · exact g1
        · exact g2
      · exact g3
theorem c_all0 (d c s : Int32) {μ : Mm} : f_X3_clearestOfAllLevers_v0 0 d c s μ = some (c, μ) := by
  unfold f_X3_clearestOfAllLevers_v0; rw [if_neg (by decide)]
theorem c_all1 : ∀ (m : Nat), m ≤ 1 → ∀ (d c s : Int32) {μ : Mm}, f_X3_clearestOfAllLevers_v1 (nI m) d c s μ = some (qall m d c s, μ) := by
  intro m hm d c s μ
  unfold f_X3_clearestOfAllLevers_v1
  cases m with
  | zero => rw [if_neg (by decide)]; rfl
  | succ m =>
    rw [if_pos (show 0 < nI (m + 1) from nI_lt (a := 0) (by omega) (by omega)), show z_F = 1196 + 1 + 1 + 1 + 1 from rfl]
    have hr : ∀ (d c s : Int32) (μ : Mm), f_X3_clearestOfAllLevers_v0 (nI (m + 1) - 1) d c s μ = some (qall m d c s, μ) := fun d c s μ => by
      rw [nI_pred]
      have hm0 : m = 0 := by omega
      subst hm0
      exact c_all0 d c s
    have st : ∀ (n : Nat) (l : Int32) (best : Int32), 1 ≤ l → ¬ 3 < l → f_X3_clearestOfAllLevers_v1_b12 (n + 1) (nI (m + 1)) d c s best l μ = f_X3_clearestOfAllLevers_v1_b12 n (nI (m + 1)) d c s (qmax best (qall m (qcd d l) (qcc c l s 0) (qsa s (qcd d l)))) (l + 1) μ := by
      intro n l best h1 h3
      rw [f_X3_clearestOfAllLevers_v1_b12, if_neg h3, c_cd, zb_of rfl, c_cc _ _ _ _ h1, zb_of rfl, c_sa, zb_of rfl, hr, zb_of rfl]
      rfl
    rw [st _ 1 _ (by decide) (by decide), show (1 : Int32) + 1 = 2 from rfl, st _ 2 _ (by decide) (by decide), show (2 : Int32) + 1 = 3 from rfl, st _ 3 _ (by decide) (by decide), f_X3_clearestOfAllLevers_v1_b12, if_pos (by decide)]
    rfl
theorem c_all2 : ∀ (m : Nat), m ≤ 2 → ∀ (d c s : Int32) {μ : Mm}, f_X3_clearestOfAllLevers_v2 (nI m) d c s μ = some (qall m d c s, μ) := by
  intro m hm d c s μ
  unfold f_X3_clearestOfAllLevers_v2
  cases m with
  | zero => rw [if_neg (by decide)]; rfl
  | succ m =>
    rw [if_pos (show 0 < nI (m + 1) from nI_lt (a := 0) (by omega) (by omega)), show z_F = 1196 + 1 + 1 + 1 + 1 from rfl]
    have hr : ∀ (d c s : Int32) (μ : Mm), f_X3_clearestOfAllLevers_v1 (nI (m + 1) - 1) d c s μ = some (qall m d c s, μ) := fun d c s μ => by
      rw [nI_pred]
      exact c_all1 m (by omega) d c s
    have st : ∀ (n : Nat) (l : Int32) (best : Int32), 1 ≤ l → ¬ 3 < l → f_X3_clearestOfAllLevers_v2_b12 (n + 1) (nI (m + 1)) d c s best l μ = f_X3_clearestOfAllLevers_v2_b12 n (nI (m + 1)) d c s (qmax best (qall m (qcd d l) (qcc c l s 0) (qsa s (qcd d l)))) (l + 1) μ := by
      intro n l best h1 h3
      rw [f_X3_clearestOfAllLevers_v2_b12, if_neg h3, c_cd, zb_of rfl, c_cc _ _ _ _ h1, zb_of rfl, c_sa, zb_of rfl, hr, zb_of rfl]
      rfl
    rw [st _ 1 _ (by decide) (by decide), show (1 : Int32) + 1 = 2 from rfl, st _ 2 _ (by decide) (by decide), show (2 : Int32) + 1 = 3 from rfl, st _ 3 _ (by decide) (by decide), f_X3_clearestOfAllLevers_v2_b12, if_pos (by decide)]
    rfl
theorem c_all3 : ∀ (m : Nat), m ≤ 3 → ∀ (d c s : Int32) {μ : Mm}, f_X3_clearestOfAllLevers_v3 (nI m) d c s μ = some (qall m d c s, μ) := by
  intro m hm d c s μ
  unfold f_X3_clearestOfAllLevers_v3
  cases m with
  | zero => rw [if_neg (by decide)]; rfl
  | succ m =>
    rw [if_pos (show 0 < nI (m + 1) from nI_lt (a := 0) (by omega) (by omega)), show z_F = 1196 + 1 + 1 + 1 + 1 from rfl]
    have hr : ∀ (d c s : Int32) (μ : Mm), f_X3_clearestOfAllLevers_v2 (nI (m + 1) - 1) d c s μ = some (qall m d c s, μ) := fun d c s μ => by
      rw [nI_pred]
      exact c_all2 m (by omega) d c s
    have st : ∀ (n : Nat) (l : Int32) (best : Int32), 1 ≤ l → ¬ 3 < l → f_X3_clearestOfAllLevers_v3_b12 (n + 1) (nI (m + 1)) d c s best l μ = f_X3_clearestOfAllLevers_v3_b12 n (nI (m + 1)) d c s (qmax best (qall m (qcd d l) (qcc c l s 0) (qsa s (qcd d l)))) (l + 1) μ := by
      intro n l best h1 h3
      rw [f_X3_clearestOfAllLevers_v3_b12, if_neg h3, c_cd, zb_of rfl, c_cc _ _ _ _ h1, zb_of rfl, c_sa, zb_of rfl, hr, zb_of rfl]
      rfl
    rw [st _ 1 _ (by decide) (by decide), show (1 : Int32) + 1 = 2 from rfl, st _ 2 _ (by decide) (by decide), show (2 : Int32) + 1 = 3 from rfl, st _ 3 _ (by decide) (by decide), f_X3_clearestOfAllLevers_v3_b12, if_pos (by decide)]
    rfl
theorem c_all4 : ∀ (m : Nat), m ≤ 4 → ∀ (d c s : Int32) {μ : Mm}, f_X3_clearestOfAllLevers_v4 (nI m) d c s μ = some (qall m d c s, μ) := by
  intro m hm d c s μ
  unfold f_X3_clearestOfAllLevers_v4
  cases m with
  | zero => rw [if_neg (by decide)]; rfl
  | succ m =>
    rw [if_pos (show 0 < nI (m + 1) from nI_lt (a := 0) (by omega) (by omega)), show z_F = 1196 + 1 + 1 + 1 + 1 from rfl]
    have hr : ∀ (d c s : Int32) (μ : Mm), f_X3_clearestOfAllLevers_v3 (nI (m + 1) - 1) d c s μ = some (qall m d c s, μ) := fun d c s μ => by
      rw [nI_pred]
      exact c_all3 m (by omega) d c s
    have st : ∀ (n : Nat) (l : Int32) (best : Int32), 1 ≤ l → ¬ 3 < l → f_X3_clearestOfAllLevers_v4_b12 (n + 1) (nI (m + 1)) d c s best l μ = f_X3_clearestOfAllLevers_v4_b12 n (nI (m + 1)) d c s (qmax best (qall m (qcd d l) (qcc c l s 0) (qsa s (qcd d l)))) (l + 1) μ := by
      intro n l best h1 h3
      rw [f_X3_clearestOfAllLevers_v4_b12, if_neg h3, c_cd, zb_of rfl, c_cc _ _ _ _ h1, zb_of rfl, c_sa, zb_of rfl, hr, zb_of rfl]
      rfl
    rw [st _ 1 _ (by decide) (by decide), show (1 : Int32) + 1 = 2 from rfl, st _ 2 _ (by decide) (by decide), show (2 : Int32) + 1 = 3 from rfl, st _ 3 _ (by decide) (by decide), f_X3_clearestOfAllLevers_v4_b12, if_pos (by decide)]
    rfl
theorem c_all5 : ∀ (m : Nat), m ≤ 5 → ∀ (d c s : Int32) {μ : Mm}, f_X3_clearestOfAllLevers_v5 (nI m) d c s μ = some (qall m d c s, μ) := by
  intro m hm d c s μ
  unfold f_X3_clearestOfAllLevers_v5
  cases m with
  | zero => rw [if_neg (by decide)]; rfl
  | succ m =>
    rw [if_pos (show 0 < nI (m + 1) from nI_lt (a := 0) (by omega) (by omega)), show z_F = 1196 + 1 + 1 + 1 + 1 from rfl]
    have hr : ∀ (d c s : Int32) (μ : Mm), f_X3_clearestOfAllLevers_v4 (nI (m + 1) - 1) d c s μ = some (qall m d c s, μ) := fun d c s μ => by
      rw [nI_pred]
      exact c_all4 m (by omega) d c s
    have st : ∀ (n : Nat) (l : Int32) (best : Int32), 1 ≤ l → ¬ 3 < l → f_X3_clearestOfAllLevers_v5_b12 (n + 1) (nI (m + 1)) d c s best l μ = f_X3_clearestOfAllLevers_v5_b12 n (nI (m + 1)) d c s (qmax best (qall m (qcd d l) (qcc c l s 0) (qsa s (qcd d l)))) (l + 1) μ := by
      intro n l best h1 h3
      rw [f_X3_clearestOfAllLevers_v5_b12, if_neg h3, c_cd, zb_of rfl, c_cc _ _ _ _ h1, zb_of rfl, c_sa, zb_of rfl, hr, zb_of rfl]
      rfl
    rw [st _ 1 _ (by decide) (by decide), show (1 : Int32) + 1 = 2 from rfl, st _ 2 _ (by decide) (by decide), show (2 : Int32) + 1 = 3 from rfl, st _ 3 _ (by decide) (by decide), f_X3_clearestOfAllLevers_v5_b12, if_pos (by decide)]
    rfl
/-! the reference's way: digits in base 3 -/
theorem p3d {a : Nat} (h : a < 2 ^ 31) : nI a / 3 = nI (a / 3) := by
  apply Int32.toInt_inj.mp
  rw [i_div (by rw [nI_toInt h]; omega) (by decide), nI_toInt h, nI_toInt (by omega), i_3]
  omega
theorem p3r {a : Nat} (h : a < 2 ^ 31) : nI a - nI (a / 3) * 3 = nI (a % 3) := by
  rw [show (3 : Int32) = nI 3 from rfl, pmul]
  apply Int32.toInt_inj.mp
  rw [i_sub (by rw [nI_toInt h, nI_toInt (by omega)]; omega) (by rw [nI_toInt h, nI_toInt (by omega)]; omega), nI_toInt h, nI_toInt (by omega), nI_toInt (by omega)]
  omega
theorem p1l {i : Nat} (h : i < 3) : (1 : Int32) ≤ nI (1 + i) := nI_le (a := 1) (by omega) (by omega)
