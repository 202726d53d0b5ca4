/-! PURE: the relation is kept -/
theorem i_sub {a b : Int32} (h1 : -2147483648 ≤ a.toInt - b.toInt) (h2 : a.toInt - b.toInt < 2147483648) : (a - b).toInt = a.toInt - b.toInt := by
  rw [Int32.toInt_sub, Int.bmod_eq_of_le (by omega) (by omega)]
theorem i_add {a b : Int32} (h1 : -2147483648 ≤ a.toInt + b.toInt) (h2 : a.toInt + b.toInt < 2147483648) : (a + b).toInt = a.toInt + b.toInt := by
  rw [Int32.toInt_add, Int.bmod_eq_of_le (by omega) (by omega)]
theorem i_mul {a b : Int32} (h1 : -2147483648 ≤ a.toInt * b.toInt) (h2 : a.toInt * b.toInt < 2147483648) : (a * b).toInt = a.toInt * b.toInt := by
  rw [Int32.toInt_mul, Int.bmod_eq_of_le (by omega) (by omega)]
theorem i_div {a b : Int32} (h1 : 0 ≤ a.toInt) (hb : 0 < b.toInt) : (a / b).toInt = a.toInt / b.toInt := by
  have ha : a.toInt < 2 ^ 31 := Int32.toInt_lt a
  have hq : a.toInt / b.toInt ≤ a.toInt := Int.ediv_le_self _ h1
  have hq0 : 0 ≤ a.toInt / b.toInt := Int.ediv_nonneg h1 (by omega)
  rw [Int32.toInt_div, Int.tdiv_eq_ediv_of_nonneg h1, Int.bmod_eq_of_le (by omega) (by omega)]
theorem qsa_b {s d : Int32} (hs0 : 0 ≤ s.toInt) (hs : s.toInt < 1000) (hd : 0 ≤ d.toInt) (hd2 : d.toInt < 1000) : 0 ≤ (qsa s d).toInt ∧ (qsa s d).toInt ≤ s.toInt := by
  unfold qsa
  have e := i_sub (a := s) (b := d) (by omega) (by omega)
  split
  · rename_i h
    rw [i_lt, i_0] at h
    omega
  · rw [i_0]; omega
def Bd (st : Nat → Int32) : Prop := (∀ t, t < 24 → (0 ≤ (st (22 + 7 * t)).toInt ∧ (st (22 + 7 * t)).toInt ≤ 9) ∧ 0 ≤ (st (22 + 7 * t + 1)).toInt ∧ (st (22 + 7 * t + 1)).toInt ≤ 85) ∧ (0 ≤ (st 0).toInt ∧ (st 0).toInt ≤ 100) ∧ (0 ≤ (st 1).toInt ∧ (st 1).toInt ≤ 100) ∧ (0 ≤ (st 2).toInt ∧ (st 2).toInt ≤ 20) ∧ Mok st
def Rel (a b : Nat → Int32) : Prop := Eqv a b ∧ Nrm a ∧ Bd a
theorem Eqv.of {a b : Nat → Int32} (h1 : ∀ j, j < 190 → (∀ t, j ≠ 22 + 7 * t + 4) → a j = b j) (h2 : ∀ t, t < 24 → ¬ qcut a t = 0 → a (22 + 7 * t + 4) = b (22 + 7 * t + 4)) : Eqv a b := by
  refine ⟨h1, fun t ht => ?_⟩
  have ed : a (22 + 7 * t) = b (22 + 7 * t) := h1 _ (by omega) (fun s => by omega)
  have ec : qcut a t = qcut b t := by unfold qcut; rw [ed]
  unfold qmo
  rw [← ec]
  by_cases h : qcut a t = 0
  · rw [if_pos h, if_pos h]
  · rw [if_neg h, if_neg h, h2 t ht h]
theorem Eqv.mo {a b : Nat → Int32} (h : Eqv a b) {t : Nat} (ht : t < 24) (hc : ¬ qcut a t = 0) : a (22 + 7 * t + 4) = b (22 + 7 * t + 4) := by
  have e := h.2 t ht
  unfold qmo at e
  rw [← h.cut ht, if_neg hc, if_neg hc] at e
  exact e
theorem qcut_of {a b : Nat → Int32} {t : Nat} (h : a (22 + 7 * t) = b (22 + 7 * t)) : qcut a t = qcut b t := by unfold qcut; rw [h]
theorem qmo_of {a b : Nat → Int32} {t : Nat} (h : a (22 + 7 * t) = b (22 + 7 * t)) (h2 : a (22 + 7 * t + 4) = b (22 + 7 * t + 4)) : qmo a t = qmo b t := by unfold qmo; rw [qcut_of h, h2]
theorem qcut_pos {a : Nat → Int32} {t : Nat} (h : 0 < (a (22 + 7 * t)).toInt) : qcut a t = 1 := by
  unfold qcut
  rw [if_neg (by rw [i_le, i_0]; omega)]
theorem qcut_pos' {a : Nat → Int32} {t : Nat} (h : ¬ qcut a t = 0) : 0 < (a (22 + 7 * t)).toInt := by
  unfold qcut at h
  by_cases h2 : a (22 + 7 * t) ≤ 0
  · rw [if_pos h2] at h; exact absurd rfl h
  · rw [i_le, i_0] at h2; omega
theorem qmo_0 {a : Nat → Int32} {t : Nat} (h : a (22 + 7 * t) = 0) : qmo a t = -1 := by
  unfold qmo qcut
  rw [h, if_pos (by decide)]
/-- all that a change must keep, from what it leaves as it was and what it sets -/
theorem Rel.of {a b a' b' : Nat → Int32} (h : Rel a b) (hj : ∀ j, j < 190 → (∀ t, j ≠ 22 + 7 * t + 4) → a' j = b' j)
    (ht : ∀ t, t < 24 → (a' (22 + 7 * t) = a (22 + 7 * t) ∧ (a' (22 + 7 * t + 4) = a (22 + 7 * t + 4) ∧ b' (22 + 7 * t + 4) = b (22 + 7 * t + 4))) ∨
      (a' (22 + 7 * t) = 0 ∧ a' (22 + 7 * t + 4) = -1) ∨ (∃ m : Int32, (0 < (a' (22 + 7 * t)).toInt ∧ (a' (22 + 7 * t)).toInt ≤ 9) ∧ a' (22 + 7 * t + 4) = m ∧ b' (22 + 7 * t + 4) = m ∧ (m = -1 ∨ ∃ u : Nat, u < 24 ∧ m = nI u)))
    (hc : ∀ t, t < 24 → 0 ≤ (a' (22 + 7 * t + 1)).toInt ∧ (a' (22 + 7 * t + 1)).toInt ≤ 85) (h0 : 0 ≤ (a' 0).toInt ∧ (a' 0).toInt ≤ 100) (h1 : 0 ≤ (a' 1).toInt ∧ (a' 1).toInt ≤ 100) (h2 : 0 ≤ (a' 2).toInt ∧ (a' 2).toInt ≤ 20) : Rel a' b' := by
  obtain ⟨hE, hN, hB⟩ := h
  refine ⟨Eqv.of hj (fun t h24 hcut => ?_), fun t h24 => ?_, fun t h24 => ⟨?_, hc t h24⟩, h0, h1, h2, fun t h24 => ?_⟩
  · rcases ht t h24 with ⟨e1, e2, e3⟩ | ⟨e1, e2⟩ | ⟨m, e1, e2, e3, e4⟩
    · rw [e2, e3]
      exact hE.mo h24 (by rw [qcut_of e1] at hcut; exact hcut)
    · exact absurd (by unfold qcut; rw [e1]; rfl) hcut
    · rw [e2, e3]
  · rcases ht t h24 with ⟨e1, e2, e3⟩ | ⟨e1, e2⟩ | ⟨m, e1, e2, e3, e4⟩
    · rw [qmo_of e1 e2, e2]; exact hN t h24
    · rw [e2, qmo_0 e1]
    · unfold qmo; rw [qcut_pos e1.1, if_neg (by decide)]
  · rcases ht t h24 with ⟨e1, e2, e3⟩ | ⟨e1, e2⟩ | ⟨m, e1, e2, e3, e4⟩
    · rw [e1]; exact (hB.1 t h24).1
    · rw [e1, i_0]; omega
    · omega
  · rcases ht t h24 with ⟨e1, e2, e3⟩ | ⟨e1, e2⟩ | ⟨m, e1, e2, e3, e4⟩
    · rw [qmo_of e1 e2]; exact hB.2.2.2.2 t h24
    · exact Or.inl (qmo_0 e1)
    · rw [show qmo a' t = m by unfold qmo; rw [qcut_pos e1.1, if_neg (by decide), e2]]; exact e4
def d_cut (st : Nat → Int32) (t : Nat) (d c f g m by_ : Int32) (k : Nat) : Nat → Int32 :=
  upd (upd (upd (upd (upd (upd (upd (upd (upd (upd st k (st k + 1)) (22 + 7 * t) d) (22 + 7 * t + 1) c) (22 + 7 * t + 2) f) (22 + 7 * t + 3) g) (22 + 7 * t + 4) m) (22 + 7 * t + 5) c) (22 + 7 * t + 6) 0) 0 (qsa (st 0) d)) 1 (st 1 - by_)
theorem Rel.cut {a b : Nat → Int32} (h : Rel a b) {t : Nat} (ht : t < 24) {d c f g m by_ : Int32} {k : Nat} (hk : k = 3 ∨ k = 4) (hd : 0 < d.toInt ∧ d.toInt ≤ 9) (hc : 0 ≤ c.toInt ∧ c.toInt ≤ 85) (hm : m = -1 ∨ ∃ u : Nat, u < 24 ∧ m = nI u) (hb : 0 ≤ (a 1 - by_).toInt ∧ (a 1 - by_).toInt ≤ 100) :
    Rel (b_cut a t d c f g m by_ k) (d_cut b t d c f g m by_ k) := by
  have e0 : a 0 = b 0 := h.1.st (by decide)
  have e1 : a 1 = b 1 := h.1.st (by decide)
  have ek : a k = b k := h.1.st (by omega)
  have B := h.2.2
  refine Rel.of h (fun j hj hn => ?_) (fun s hs => ?_) (fun s hs => ?_) ?_ ?_ ?_
  · have ej := h.1.1 j hj hn
    have hnt := hn t
    simp only [b_cut, d_cut, upd]
    rw [e0, e1, ek, ej]
    repeat' split
    all_goals (first | rfl | (exfalso; omega))
  · by_cases hst : s = t
    · subst hst
      refine Or.inr (Or.inr ⟨m, ?_, ?_, ?_, hm⟩)
      · rw [show b_cut a s d c f g m by_ k (22 + 7 * s) = d by unfold b_cut; simp (disch := omega) only [upd_s, upd_n]]; exact hd
      · unfold b_cut; simp (disch := omega) only [upd_s, upd_n]
      · unfold d_cut; simp (disch := omega) only [upd_s, upd_n]
    · refine Or.inl ⟨?_, ?_, ?_⟩
      · unfold b_cut; simp (disch := omega) only [upd_n]
      · unfold b_cut; simp (disch := omega) only [upd_n]
      · unfold d_cut; simp (disch := omega) only [upd_n]
  · by_cases hst : s = t
    · subst hst
      rw [show b_cut a s d c f g m by_ k (22 + 7 * s + 1) = c by unfold b_cut; simp (disch := omega) only [upd_s, upd_n]]; exact hc
    · rw [show b_cut a t d c f g m by_ k (22 + 7 * s + 1) = a (22 + 7 * s + 1) by unfold b_cut; simp (disch := omega) only [upd_n]]; exact (B.1 s hs).2
  · rw [show b_cut a t d c f g m by_ k 0 = qsa (a 0) d by unfold b_cut; simp (disch := omega) only [upd_s, upd_n]]
    have B0 := B.2.1
    have := qsa_b (s := a 0) (d := d) (by omega) (by omega) (by omega) (by omega)
    omega
  · rw [show b_cut a t d c f g m by_ k 1 = a 1 - by_ by unfold b_cut; simp (disch := omega) only [upd_s, upd_n]]; exact hb
  · rw [show b_cut a t d c f g m by_ k 2 = a 2 by unfold b_cut; simp (disch := omega) only [upd_n]]; exact B.2.2.2.1
theorem Rel.set {a b : Nat → Int32} (h : Rel a b) {j : Nat} {x : Int32} (hj : j < 22) (h0 : j = 0 ∨ j = 1 → 0 ≤ x.toInt ∧ x.toInt ≤ 100) (h2 : j = 2 → 0 ≤ x.toInt ∧ x.toInt ≤ 20) : Rel (upd a j x) (upd b j x) := by
  have B := h.2.2
  refine Rel.of h (fun i hi hn => ?_) (fun s hs => Or.inl ⟨?_, ?_, ?_⟩) (fun s hs => ?_) ?_ ?_ ?_
  · have ej := h.1.1 i hi hn
    simp only [upd]
    rw [ej]
  · simp (disch := omega) only [upd_n]
  · simp (disch := omega) only [upd_n]
  · simp (disch := omega) only [upd_n]
  · rw [upd_n (by omega)]; exact (B.1 s hs).2
  · by_cases e : j = 0
    · subst e; rw [upd_s]; exact h0 (Or.inl rfl)
    · rw [upd_n (by omega)]; exact B.2.1
  · by_cases e : j = 1
    · subst e; rw [upd_s]; exact h0 (Or.inr rfl)
    · rw [upd_n (by omega)]; exact B.2.2.1
  · by_cases e : j = 2
    · subst e; rw [upd_s]; exact h2 rfl
    · rw [upd_n (by omega)]; exact B.2.2.2.1
theorem Rel.ref {a b : Nat → Int32} (h : Rel a b) : Rel (b_ref a) (b_ref b) := by
  unfold b_ref
  rw [h.1.st (show 9 < 22 by decide)]
  exact h.set (by decide) (fun q => by omega) (fun q => by omega)
theorem Rel.tr {a b : Nat → Int32} (h : Rel a b) {t c : Nat} {x : Int32} (ht : t < 24) (hc : c < 7) (hc0 : c ≠ 0) (hc4 : c ≠ 4) (h1 : c = 1 → 0 ≤ x.toInt ∧ x.toInt ≤ 85) : Rel (upd a (22 + 7 * t + c) x) (upd b (22 + 7 * t + c) x) := by
  have B := h.2.2
  refine Rel.of h (fun i hi hn => ?_) (fun s hs => Or.inl ⟨?_, ?_, ?_⟩) (fun s hs => ?_) ?_ ?_ ?_
  · have ej := h.1.1 i hi hn
    simp only [upd]
    rw [ej]
  · simp (disch := omega) only [upd_n]
  · simp (disch := omega) only [upd_n]
  · simp (disch := omega) only [upd_n]
  · by_cases e : 22 + 7 * s + 1 = 22 + 7 * t + c
    · rw [e, upd_s]; exact h1 (by omega)
    · rw [upd_n e]; exact (B.1 s hs).2
  · rw [upd_n (by omega)]; exact B.2.1
  · rw [upd_n (by omega)]; exact B.2.2.1
  · rw [upd_n (by omega)]; exact B.2.2.2.1
/-- one track smoothed: the class sets the mother too -/
theorem Rel.sm1 {a b : Nat → Int32} (h : Rel a b) {t : Nat} (ht : t < 24) : Rel (upd (upd a (22 + 7 * t) 0) (22 + 7 * t + 4) (-1)) (upd b (22 + 7 * t) 0) := by
  have B := h.2.2
  refine Rel.of h (fun i hi hn => ?_) (fun s hs => ?_) (fun s hs => ?_) ?_ ?_ ?_
  · have ej := h.1.1 i hi hn
    have hnt := hn t
    rw [upd_n hnt]
    simp only [upd]
    rw [ej]
  · by_cases e : s = t
    · subst e
      refine Or.inr (Or.inl ⟨?_, ?_⟩) <;> simp (disch := omega) only [upd_s, upd_n]
    · refine Or.inl ⟨?_, ?_, ?_⟩ <;> simp (disch := omega) only [upd_n]
  · simp (disch := omega) only [upd_n]; exact (B.1 s hs).2
  · simp (disch := omega) only [upd_n]; exact B.2.1
  · simp (disch := omega) only [upd_n]; exact B.2.2.1
  · simp (disch := omega) only [upd_n]; exact B.2.2.2.1
def d_sm (st : Nat → Int32) (c : Nat) : Nat → Int32 := lp (fun t s => upd s (22 + 7 * t) 0) 4 (4 * c) st
theorem Rel.sm {a b : Nat → Int32} (h : Rel a b) {c : Nat} (hc : c < 6) : Rel (b_sm a c) (d_sm b c) := by
  unfold b_sm d_sm
  simp only [lp]
  exact (((h.sm1 (by omega)).sm1 (by omega)).sm1 (by omega)).sm1 (by omega)
