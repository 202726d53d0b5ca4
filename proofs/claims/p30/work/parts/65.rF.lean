/-! p30, PURE: daughters, best tracks -/
def ownB (st : Nat → Int32) (t o : Nat) : Bool := decide (o ≠ t ∧ qmo st o = nI t)
def dauB (st : Nat → Int32) (t o : Nat) : Bool := decide (o ≠ t ∧ ¬ qway (qmo st) 24 (qmo st o) t = 0)
theorem ownB_t {st : Nat → Int32} {t o : Nat} : ownB st t o = true ↔ o ≠ t ∧ qmo st o = nI t := by unfold ownB; exact decide_eq_true_iff
theorem dauB_t {st : Nat → Int32} {t o : Nat} : dauB st t o = true ↔ o ≠ t ∧ ¬ qway (qmo st) 24 (qmo st o) t = 0 := by unfold dauB; exact decide_eq_true_iff
theorem qdau_n (st : Nat → Int32) (t : Nat) : qdau st t = nI (cntB (dauB st t) 24 0) := by
  have := cnt_lp (P := dauB st t) (f := fun o a => if o = t then a else if qway (qmo st) 24 (qmo st o) t = 0 then a else a + 1) 24 0 0 (fun j _ _ x => by
    by_cases h : j = t
    · rw [if_pos h, if_neg (fun q => (dauB_t.mp q).1 h)]
    · rw [if_neg h]
      by_cases h2 : qway (qmo st) 24 (qmo st j) t = 0
      · rw [if_pos h2, if_neg (fun q => (dauB_t.mp q).2 h2)]
      · rw [if_neg h2, if_pos (dauB_t.mpr ⟨h, h2⟩)])
  rw [Nat.zero_add] at this
  exact this
theorem qway_hit (mo : Nat → Int32) {t : Nat} (ht : t < 24) (m : Nat) : qway mo (m + 1) (nI t) t = 1 := by
  rw [qway, if_neg (show ¬ nI t < 0 from nI_nlt (b := 0) (by omega) (by omega)), if_neg (show ¬ (24 : Int32) ≤ nI t from pge (b := 24) ht (by omega)), if_pos rfl]
theorem qway_miss (mo : Nat → Int32) {t : Nat} (h : ∀ o, o < 24 → ¬ mo o = nI t) : ∀ (m : Nat) (x : Int32), ¬ x = nI t → qway mo m x t = 0 := by
  intro m
  induction m with
  | zero => intro x _; rfl
  | succ m ih =>
    intro x hx
    rw [qway]
    by_cases h1 : x < 0
    · rw [if_pos h1]
    · rw [if_neg h1]
      by_cases h2 : 24 ≤ x
      · rw [if_pos h2]
      · rw [if_neg h2, if_neg hx]
        refine ih _ (h _ ?_)
        rcases pcase x with q | ⟨u, hu, rfl⟩
        · exact absurd q h1
        · rw [pcl hu]
          exact Classical.byContradiction fun q => h2 (ple (a := 24) (by omega) hu)
theorem qmo_self {n : Nat} {a : Nat → Int32} (h : Iv n a) {t : Nat} (ht : t < 24) : ¬ qmo a t = nI t := by
  unfold qmo
  by_cases hc : qcut a t = 0
  · rw [if_pos hc]; exact fun q => pneg (by omega) q.symm
  · rw [if_neg hc]
    rcases ((h.1 t ht).2.2.2 (qcut_pos' hc)).2.2.2.2.2.1 with q | ⟨u, hu, hut, q⟩
    · rw [q]; exact fun q => pneg (by omega) q.symm
    · rw [q]; exact nI_ne (by omega) (by omega) (by omega)
theorem own_le {st : Nat → Int32} {t : Nat} (ht : t < 24) : cntB (ownB st t) 24 0 ≤ cntB (dauB st t) 24 0 := cnt_le 24 0 (fun j _ _ hp => by
  obtain ⟨h1, h2⟩ := ownB_t.mp hp
  refine dauB_t.mpr ⟨h1, ?_⟩
  rw [h2, qway_hit _ ht]; decide)
theorem own_z {n : Nat} {st : Nat → Int32} (h : Iv n st) {t : Nat} (ht : t < 24) (h0 : cntB (ownB st t) 24 0 = 0) : cntB (dauB st t) 24 0 = 0 := by
  have hz := cnt_z 24 0 h0
  have hno : ∀ o, o < 24 → ¬ qmo st o = nI t := fun o ho q => by
    by_cases hot : o = t
    · rw [hot] at q; exact qmo_self h ht q
    · have := hz o (Nat.zero_le _) (by omega)
      rw [ownB_t.mpr ⟨hot, q⟩] at this
      exact absurd this (by decide)
  refine cnt_z2 24 0 (fun j _ hj => ?_)
  refine Bool.eq_false_iff.mpr (fun q => (dauB_t.mp q).2 ?_)
  exact qway_miss _ hno 24 _ (hno j (by omega))
theorem dau_23 {st : Nat → Int32} {t : Nat} (ht : t < 24) : cntB (dauB st t) 24 0 ≤ 23 := by
  have := cnt_lt (P := dauB st t) (t := t) 24 0 (Nat.zero_le _) (by omega) (Bool.eq_false_iff.mpr (fun q => (dauB_t.mp q).1 rfl))
  omega
def fct (st : Nat → Int32) (t a : Nat) : Nat := if qcut st t = 0 then a else if a = 0 then t + 1 else if qbet st t (a - 1) then t + 1 else a
def f6 (st : Nat → Int32) (t : Nat) (a : Int32) : Int32 := if qcut st t = 0 then a else if st (22 + 7 * t + 1) ≤ a then a else st (22 + 7 * t + 1)
def BI (st : Nat → Int32) (a : Nat) (x : Int32) (c : Nat) : Prop := (a = 0 ∧ x = -1 ∧ c = 0) ∨ ∃ i, i < 24 ∧ a = i + 1 ∧ ¬ qcut st i = 0 ∧ x = st (22 + 7 * i + 1) ∧ 0 < c
theorem BI_step {n : Nat} {st : Nat → Int32} (h : Iv n st) {a : Nat} {x : Int32} {c k : Nat} (hk : k < 24) (hb : BI st a x c) : BI st (fct st k a) (f6 st k x) ((if cutB st k then 1 else 0) + c) := by
  unfold fct f6
  by_cases hc : qcut st k = 0
  · rw [if_pos hc, if_pos hc, if_neg (fun q => cutB_t.mp q hc), Nat.zero_add]; exact hb
  · rw [if_neg hc, if_neg hc, if_pos (cutB_t.mpr hc)]
    have hcl := (h.1 k hk).2.1.1
    rcases hb with ⟨rfl, rfl, rfl⟩ | ⟨i, hi, rfl, hci, rfl, h0⟩
    · rw [if_pos rfl, if_neg (fun q => by rw [i_le, i_m1] at q; omega)]
      exact Or.inr ⟨k, hk, rfl, hc, rfl, by omega⟩
    · rw [if_neg (by omega), Nat.add_sub_cancel]
      by_cases he : st (22 + 7 * k + 1) = st (22 + 7 * i + 1)
      · rw [if_pos (show st (22 + 7 * k + 1) ≤ st (22 + 7 * i + 1) by rw [he]; exact Int32.le_refl _)]
        by_cases hq : qbet st k i
        · rw [if_pos hq]; exact Or.inr ⟨k, hk, rfl, hc, he.symm, by omega⟩
        · rw [if_neg hq]; exact Or.inr ⟨i, hi, rfl, hci, rfl, by omega⟩
      · by_cases hle : st (22 + 7 * k + 1) ≤ st (22 + 7 * i + 1)
        · rw [if_pos hle, if_neg (show ¬ qbet st k i by unfold qbet; rw [if_neg he]; exact fun q => q hle)]; exact Or.inr ⟨i, hi, rfl, hci, rfl, by omega⟩
        · rw [if_neg hle, if_pos (show qbet st k i by unfold qbet; rw [if_neg he]; exact hle)]; exact Or.inr ⟨k, hk, rfl, hc, rfl, by omega⟩
theorem BI_lp {n : Nat} {st : Nat → Int32} (h : Iv n st) : ∀ (m k a : Nat) (x : Int32) (c : Nat), k + m ≤ 24 → BI st a x c → BI st (lp (fct st) m k a) (lp (f6 st) m k x) (c + cntB (cutB st) m k) := by
  intro m
  induction m with
  | zero => intro k a x c _ hb; exact hb
  | succ m ih =>
    intro k a x c hk hb
    have := ih (k + 1) _ _ _ (by omega) (BI_step h (show k < 24 by omega) hb)
    show BI st (lp (fct st) m (k + 1) (fct st k a)) (lp (f6 st) m (k + 1) (f6 st k x)) (c + ((if cutB st k then 1 else 0) + cntB (cutB st) m (k + 1)))
    rw [show c + ((if cutB st k then 1 else 0) + cntB (cutB st) m (k + 1)) = (if cutB st k then 1 else 0) + c + cntB (cutB st) m (k + 1) by omega]
    exact this
theorem best_ok {n : Nat} {st : Nat → Int32} (h : Iv n st) : BI st (qct st) (lp (f6 st) 24 0 (-1)) (ncuts st) := by
  have := BI_lp h 24 0 0 (-1) 0 (by decide) (Or.inl ⟨rfl, rfl, rfl⟩)
  rw [Nat.zero_add] at this
  exact this
def fco (st : Nat → Int32) (t a : Nat) : Nat := if qcut st t = 0 then a else if a = 0 then t + 1 else if st (22 + 7 * t + 1) ≤ st (22 + 7 * (a - 1) + 1) then a else t + 1
def BC (st : Nat → Int32) (c a e : Nat) : Prop := (a = 0 ∧ e = 0) ∨ ∃ i, i / 4 = c ∧ a = i + 1 ∧ ¬ qcut st i = 0 ∧ 0 < e
theorem BC_lp (st : Nat → Int32) (c : Nat) : ∀ (m k a e : Nat), 4 * c ≤ k → k + m ≤ 4 * c + 4 → BC st c a e → BC st c (lp (fco st) m k a) (e + cntB (cutB st) m k) := by
  intro m
  induction m with
  | zero => intro k a e _ _ hb; exact hb
  | succ m ih =>
    intro k a e h1 h2 hb
    have hs : BC st c (fco st k a) ((if cutB st k then 1 else 0) + e) := by
      unfold fco
      by_cases hc : qcut st k = 0
      · rw [if_pos hc, if_neg (fun q => cutB_t.mp q hc), Nat.zero_add]; exact hb
      · rw [if_neg hc, if_pos (cutB_t.mpr hc)]
        rcases hb with ⟨rfl, rfl⟩ | ⟨i, hi, rfl, hci, h0⟩
        · rw [if_pos rfl]; exact Or.inr ⟨k, by omega, rfl, hc, by omega⟩
        · rw [if_neg (by omega)]
          split
          · exact Or.inr ⟨i, hi, rfl, hci, by omega⟩
          · exact Or.inr ⟨k, by omega, rfl, hc, by omega⟩
    have := ih (k + 1) _ _ (by omega) (by omega) hs
    show BC st c (lp (fco st) m (k + 1) (fco st k a)) (e + ((if cutB st k then 1 else 0) + cntB (cutB st) m (k + 1)))
    rw [show e + ((if cutB st k then 1 else 0) + cntB (cutB st) m (k + 1)) = (if cutB st k then 1 else 0) + e + cntB (cutB st) m (k + 1) by omega]
    exact this
theorem cton_ok (st : Nat → Int32) (c : Nat) : BC st c (qcton st c) (cntB (cutB st) 4 (4 * c)) := by
  have := BC_lp st c 4 (4 * c) 0 0 (Nat.le_refl _) (Nat.le_refl _) (Or.inl ⟨rfl, rfl⟩)
  rw [Nat.zero_add] at this
  exact this
theorem qlay_n {n : Nat} {st : Nat → Int32} (h : Iv n st) : (qlay st).toInt = SL st := by
  have h0 := h.2.2.2.2.1 0 (by decide)
  have h1 := h.2.2.2.2.1 1 (by decide)
  have h2 := h.2.2.2.2.1 2 (by decide)
  have h3 := h.2.2.2.2.1 3 (by decide)
  have h4 := h.2.2.2.2.1 4 (by decide)
  have h5 := h.2.2.2.2.1 5 (by decide)
  have e : qlay st = 0 + st (10 + 2 * 0) + st (10 + 2 * 1) + st (10 + 2 * 2) + st (10 + 2 * 3) + st (10 + 2 * 4) + st (10 + 2 * 5) := rfl
  have es : SL st = (st (10 + 2 * 0)).toInt + (st (10 + 2 * 1)).toInt + (st (10 + 2 * 2)).toInt + (st (10 + 2 * 3)).toInt + (st (10 + 2 * 4)).toInt + (st (10 + 2 * 5)).toInt := rfl
  rw [e, es, Int32.zero_add]
  have a1 := i_add (a := st (10 + 2 * 0)) (b := st (10 + 2 * 1)) (by omega) (by omega)
  have a2 := i_add (a := st (10 + 2 * 0) + st (10 + 2 * 1)) (b := st (10 + 2 * 2)) (by omega) (by omega)
  have a3 := i_add (a := st (10 + 2 * 0) + st (10 + 2 * 1) + st (10 + 2 * 2)) (b := st (10 + 2 * 3)) (by omega) (by omega)
  have a4 := i_add (a := st (10 + 2 * 0) + st (10 + 2 * 1) + st (10 + 2 * 2) + st (10 + 2 * 3)) (b := st (10 + 2 * 4)) (by omega) (by omega)
  have a5 := i_add (a := st (10 + 2 * 0) + st (10 + 2 * 1) + st (10 + 2 * 2) + st (10 + 2 * 3) + st (10 + 2 * 4)) (b := st (10 + 2 * 5)) (by omega) (by omega)
  omega
