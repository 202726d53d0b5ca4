/-! PURE: the relation is kept -/
theorem i_sub {a b : Int32} (h1 : -2147483648 ≤ a.toInt - b.toInt) (h2 : a.toInt - b.toInt < 2147483648) : (a - b).toInt = a.toInt - b.toInt := by
  rw [Int32.toInt_sub, Int.bmod_eq_of_le (by omega) (by omega)]
theorem i_add {a b : Int32} (h1 : -2147483648 ≤ a.toInt + b.toInt) (h2 : a.toInt + b.toInt < 2147483648) : (a + b).toInt = a.toInt + b.toInt := by
  rw [Int32.toInt_add, Int.bmod_eq_of_le (by omega) (by omega)]
theorem i_mul {a b : Int32} (h1 : -2147483648 ≤ a.toInt * b.toInt) (h2 : a.toInt * b.toInt < 2147483648) : (a * b).toInt = a.toInt * b.toInt := by
  rw [Int32.toInt_mul, Int.bmod_eq_of_le (by omega) (by omega)]
theorem i_div {a b : Int32} (h1 : 0 ≤ a.toInt) (hb : 0 < b.toInt) : (a / b).toInt = a.toInt / b.toInt := by
  have ha : a.toInt < 2 ^ 31 := Int32.toInt_lt a
  have hq : a.toInt / b.toInt ≤ a.toInt := Int.ediv_le_self _ h1
  have hq0 : 0 ≤ a.toInt / b.toInt := Int.ediv_nonneg h1 (by omega)
  rw [Int32.toInt_div, Int.tdiv_eq_ediv_of_nonneg h1, Int.bmod_eq_of_le (by omega) (by omega)]
theorem qsa_b {s d : Int32} (hs0 : 0 ≤ s.toInt) (hs : s.toInt < 1000) (hd : 0 ≤ d.toInt) (hd2 : d.toInt < 1000) : 0 ≤ (qsa s d).toInt ∧ (qsa s d).toInt ≤ s.toInt := by
  unfold qsa
  have e := i_sub (a := s) (b := d) (by omega) (by omega)
  split
  · rename_i h
    rw [i_lt, i_0] at h
    omega
  · rw [i_0]; omega
def Bd (st : Nat → Int32) : Prop := (∀ t, t < 24 → (0 ≤ (st (22 + 7 * t)).toInt ∧ (st (22 + 7 * t)).toInt ≤ 9) ∧ 0 ≤ (st (22 + 7 * t + 1)).toInt ∧ (st (22 + 7 * t + 1)).toInt ≤ 85) ∧ (0 ≤ (st 0).toInt ∧ (st 0).toInt ≤ 100) ∧ (0 ≤ (st 1).toInt ∧ (st 1).toInt ≤ 100) ∧ (0 ≤ (st 2).toInt ∧ (st 2).toInt ≤ 20) ∧ Mok st
theorem Eqv.of {a b : Nat → Int32} (h1 : ∀ j, j < 190 → (∀ t, j ≠ 22 + 7 * t + 4) → a j = b j) (h2 : ∀ t, t < 24 → ¬ qcut a t = 0 → a (22 + 7 * t + 4) = b (22 + 7 * t + 4)) : Eqv a b := by
  refine ⟨h1, fun t ht => ?_⟩
  have ed : a (22 + 7 * t) = b (22 + 7 * t) := h1 _ (by omega) (fun s => by omega)
  have ec : qcut a t = qcut b t := by unfold qcut; rw [ed]
  unfold qmo
  rw [← ec]
  by_cases h : qcut a t = 0
  · rw [if_pos h, if_pos h]
  · rw [if_neg h, if_neg h, h2 t ht h]
theorem Eqv.mo {a b : Nat → Int32} (h : Eqv a b) {t : Nat} (ht : t < 24) (hc : ¬ qcut a t = 0) : a (22 + 7 * t + 4) = b (22 + 7 * t + 4) := by
  have e := h.2 t ht
  unfold qmo at e
  rw [← h.cut ht, if_neg hc, if_neg hc] at e
  exact e
theorem qcut_of {a b : Nat → Int32} {t : Nat} (h : a (22 + 7 * t) = b (22 + 7 * t)) : qcut a t = qcut b t := by unfold qcut; rw [h]
theorem qmo_of {a b : Nat → Int32} {t : Nat} (h : a (22 + 7 * t) = b (22 + 7 * t)) (h2 : a (22 + 7 * t + 4) = b (22 + 7 * t + 4)) : qmo a t = qmo b t := by unfold qmo; rw [qcut_of h, h2]
theorem qcut_pos {a : Nat → Int32} {t : Nat} (h : 0 < (a (22 + 7 * t)).toInt) : qcut a t = 1 := by
  unfold qcut
  rw [if_neg (by rw [i_le, i_0]; omega)]
theorem qcut_pos' {a : Nat → Int32} {t : Nat} (h : ¬ qcut a t = 0) : 0 < (a (22 + 7 * t)).toInt := by
  unfold qcut at h
  by_cases h2 : a (22 + 7 * t) ≤ 0
  · rw [if_pos h2] at h; exact absurd rfl h
  · rw [i_le, i_0] at h2; omega
theorem qmo_0 {a : Nat → Int32} {t : Nat} (h : a (22 + 7 * t) = 0) : qmo a t = -1 := by
  unfold qmo qcut
  rw [h, if_pos (by decide)]
def d_cut (st : Nat → Int32) (t : Nat) (d c f g m by_ : Int32) (k : Nat) : Nat → Int32 :=
  upd (upd (upd (upd (upd (upd (upd (upd (upd (upd st k (st k + 1)) (22 + 7 * t) d) (22 + 7 * t + 1) c) (22 + 7 * t + 2) f) (22 + 7 * t + 3) g) (22 + 7 * t + 4) m) (22 + 7 * t + 5) c) (22 + 7 * t + 6) 0) 0 (qsa (st 0) d)) 1 (st 1 - by_)
def d_sm (st : Nat → Int32) (c : Nat) : Nat → Int32 := lp (fun t s => upd s (22 + 7 * t) 0) 4 (4 * c) st
