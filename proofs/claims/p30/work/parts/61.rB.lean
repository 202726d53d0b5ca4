/-! p30, PURE: counting -/
def cntB (P : Nat → Bool) : Nat → Nat → Nat
  | 0, _ => 0
  | m + 1, k => (if P k then 1 else 0) + cntB P m (k + 1)
theorem cnt_le {P Q : Nat → Bool} : ∀ (m k : Nat), (∀ j, k ≤ j → j < k + m → P j = true → Q j = true) → cntB P m k ≤ cntB Q m k := by
  intro m
  induction m with
  | zero => intro k _; exact Nat.le_refl _
  | succ m ih =>
    intro k h
    have h1 := ih (k + 1) (fun j h1 h2 => h j (by omega) (by omega))
    have h2 := h k (Nat.le_refl k) (by omega)
    show (if P k then 1 else 0) + cntB P m (k + 1) ≤ (if Q k then 1 else 0) + cntB Q m (k + 1)
    by_cases hp : P k = true
    · rw [if_pos hp, if_pos (h2 hp)]; omega
    · rw [if_neg hp]; omega
theorem cnt_one {P Q : Nat → Bool} {t : Nat} : ∀ (m k : Nat), (∀ j, k ≤ j → j < k + m → j ≠ t → P j = true → Q j = true) → cntB P m k ≤ cntB Q m k + 1 := by
  intro m
  induction m with
  | zero => intro k _; exact Nat.zero_le _
  | succ m ih =>
    intro k h
    show (if P k then 1 else 0) + cntB P m (k + 1) ≤ (if Q k then 1 else 0) + cntB Q m (k + 1) + 1
    by_cases hk : k = t
    · have h1 := cnt_le (P := P) (Q := Q) m (k + 1) (fun j h1 h2 hp => h j (by omega) (by omega) (by omega) hp)
      have h2 : (if P k then 1 else 0) ≤ 1 := by split <;> omega
      omega
    · have h1 := ih (k + 1) (fun j h1 h2 => h j (by omega) (by omega))
      by_cases hp : P k = true
      · rw [if_pos hp, if_pos (h k (Nat.le_refl k) (by omega) hk hp)]; omega
      · rw [if_neg hp]; omega
theorem cnt_bd (P : Nat → Bool) : ∀ (m k : Nat), cntB P m k ≤ m := by
  intro m
  induction m with
  | zero => intro k; exact Nat.le_refl _
  | succ m ih =>
    intro k
    have h1 := ih (k + 1)
    show (if P k then 1 else 0) + cntB P m (k + 1) ≤ m + 1
    split <;> omega
theorem cnt_lt {P : Nat → Bool} {t : Nat} : ∀ (m k : Nat), k ≤ t → t < k + m → P t = false → cntB P m k + 1 ≤ m := by
  intro m
  induction m with
  | zero => intro k _ _ _; omega
  | succ m ih =>
    intro k h1 h2 h3
    show (if P k then 1 else 0) + cntB P m (k + 1) + 1 ≤ m + 1
    by_cases hk : k = t
    · have := cnt_bd P m (k + 1)
      rw [hk, h3, if_neg (by decide)]
      rw [hk] at this
      omega
    · have := ih (k + 1) (by omega) (by omega) h3
      split <;> omega
theorem cnt_z {P : Nat → Bool} : ∀ (m k : Nat), cntB P m k = 0 → ∀ j, k ≤ j → j < k + m → P j = false := by
  intro m
  induction m with
  | zero => intro k _ j _ _; omega
  | succ m ih =>
    intro k h j h1 h2
    have h : (if P k then 1 else 0) + cntB P m (k + 1) = 0 := h
    by_cases hk : j = k
    · subst hk
      by_cases hp : P j = true
      · rw [if_pos hp] at h; omega
      · exact Bool.eq_false_iff.mpr hp
    · exact ih (k + 1) (by omega) j (by omega) (by omega)
theorem cnt_z2 {P : Nat → Bool} (m k : Nat) (h : ∀ j, k ≤ j → j < k + m → P j = false) : cntB P m k = 0 := by
  have := cnt_le (P := P) (Q := fun _ => false) m k (fun j h1 h2 hp => by rw [h j h1 h2] at hp; exact hp)
  have h0 : ∀ m k, cntB (fun _ => false) m k = 0 := by
    intro m
    induction m with
    | zero => intro k; rfl
    | succ m ih => intro k; show 0 + cntB _ m (k + 1) = 0; rw [ih]
  rw [h0] at this
  omega
/-- a loop that counts -/
theorem cnt_lp {P : Nat → Bool} {f : Nat → Int32 → Int32} : ∀ (m k a : Nat), (∀ j, k ≤ j → j < k + m → ∀ x : Int32, f j x = if P j then x + 1 else x) → lp f m k (nI a) = nI (a + cntB P m k) := by
  intro m
  induction m with
  | zero => intro k a _; rfl
  | succ m ih =>
    intro k a h
    show lp f m (k + 1) (f k (nI a)) = nI (a + ((if P k then 1 else 0) + cntB P m (k + 1)))
    rw [h k (Nat.le_refl k) (by omega)]
    by_cases hp : P k = true
    · rw [if_pos hp, if_pos hp, pa1, ih (k + 1) (a + 1) (fun j h1 h2 => h j (by omega) (by omega)), Nat.add_assoc]
    · rw [if_neg hp, if_neg hp, ih (k + 1) a (fun j h1 h2 => h j (by omega) (by omega)), Nat.zero_add]
def cutB (st : Nat → Int32) (t : Nat) : Bool := decide (¬ qcut st t = 0)
def ncuts (st : Nat → Int32) : Nat := cntB (cutB st) 24 0
theorem cutB_t {st : Nat → Int32} {t : Nat} : cutB st t = true ↔ ¬ qcut st t = 0 := by unfold cutB; exact decide_eq_true_iff
theorem ncuts_f (st : Nat → Int32) (j : Nat) (x : Int32) : (if qcut st j = 0 then x + 0 else x + 1) = if cutB st j then x + 1 else x := by
  by_cases h : qcut st j = 0
  · rw [if_pos h, if_neg (fun q => cutB_t.mp q h), Int32.add_zero]
  · rw [if_neg h, if_pos (cutB_t.mpr h)]
theorem qcuts_n (st : Nat → Int32) : qcuts st = nI (ncuts st) := by
  have := cnt_lp (P := cutB st) (f := fun t a => if qcut st t = 0 then a + 0 else a + 1) 24 0 0 (fun j _ _ x => ncuts_f st j x)
  rw [Nat.zero_add] at this
  exact this
theorem qcuton_n (st : Nat → Int32) (c : Nat) : qcuton st c = nI (cntB (cutB st) 4 (4 * c)) := by
  have := cnt_lp (P := cutB st) (f := fun t a => if qcut st t = 0 then a + 0 else a + 1) 4 (4 * c) 0 (fun j _ _ x => ncuts_f st j x)
  rw [Nat.zero_add] at this
  exact this
theorem qcut_z {st : Nat → Int32} {t : Nat} : qcut st t = 0 ↔ (st (22 + 7 * t)).toInt ≤ 0 := by
  unfold qcut
  by_cases h : st (22 + 7 * t) ≤ 0
  · rw [if_pos h]; rw [i_le, i_0] at h; exact ⟨fun _ => h, fun _ => rfl⟩
  · rw [if_neg h]; rw [i_le, i_0] at h; exact ⟨fun q => absurd q (by decide), fun q => absurd q h⟩
/-! the invariant of one wax; n: at most how many cuts and plays were made -/
def TI (n : Nat) (st : Nat → Int32) (t : Nat) : Prop :=
  (0 ≤ (st (22 + 7 * t)).toInt ∧ (st (22 + 7 * t)).toInt ≤ 9) ∧ (0 ≤ (st (22 + 7 * t + 1)).toInt ∧ (st (22 + 7 * t + 1)).toInt ≤ 85) ∧
  ((st (22 + 7 * t)).toInt = 0 → st (22 + 7 * t + 4) = -1) ∧
  (0 < (st (22 + 7 * t)).toInt →
    ((st (22 + 7 * t + 1)).toInt ≤ (st (22 + 7 * t + 5)).toInt ∧ (st (22 + 7 * t + 5)).toInt ≤ 85) ∧
    (0 ≤ (st (22 + 7 * t + 2)).toInt ∧ (st (22 + 7 * t + 2)).toInt ≤ 20) ∧
    (0 ≤ (st (22 + 7 * t + 3)).toInt ∧ (st (22 + 7 * t + 3)).toInt ≤ n) ∧
    (0 ≤ (st (22 + 7 * t + 6)).toInt ∧ (st (22 + 7 * t + 6)).toInt ≤ n) ∧
    ((st (22 + 7 * t + 3)).toInt = 0 ↔ st (22 + 7 * t + 4) = -1) ∧
    (st (22 + 7 * t + 4) = -1 ∨ ∃ u : Nat, u < 24 ∧ u / 4 ≠ t / 4 ∧ st (22 + 7 * t + 4) = nI u) ∧
    (st (22 + 7 * t)).toInt ≤ (st (10 + 2 * (t / 4))).toInt)
def SL (st : Nat → Int32) : Int := (st 10).toInt + (st 12).toInt + (st 14).toInt + (st 16).toInt + (st 18).toInt + (st 20).toInt
def CI (n : Nat) (st : Nat → Int32) : Prop :=
  (0 ≤ (st 3).toInt ∧ (st 3).toInt ≤ n) ∧ (0 ≤ (st 4).toInt ∧ (st 4).toInt ≤ n) ∧ (ncuts st : Int) ≤ (st 3).toInt + (st 4).toInt ∧
  (0 ≤ (st 6).toInt ∧ (st 6).toInt ≤ 1000 * ((n : Int) + 1)) ∧ (0 ≤ (st 7).toInt ∧ (st 7).toInt ≤ 1000 * ((n : Int) + 1)) ∧ (0 ≤ (st 8).toInt ∧ (st 8).toInt ≤ 1000 * ((n : Int) + 1)) ∧
  SL st + (st 6).toInt + (st 8).toInt = (st 7).toInt
def Iv (n : Nat) (st : Nat → Int32) : Prop :=
  (∀ t, t < 24 → TI n st t) ∧ (0 ≤ (st 0).toInt ∧ (st 0).toInt ≤ 100) ∧ (0 ≤ (st 1).toInt ∧ (st 1).toInt ≤ 100) ∧ (0 ≤ (st 2).toInt ∧ (st 2).toInt ≤ 20) ∧
  (∀ c, c < 6 → 0 ≤ (st (10 + 2 * c)).toInt ∧ (st (10 + 2 * c)).toInt ≤ 100) ∧ CI n st
theorem TI.keep {n m : Nat} {a b : Nat → Int32} {t : Nat} (h : TI n a t) (hnm : n ≤ m) (hp : ∀ w, w < 7 → b (22 + 7 * t + w) = a (22 + 7 * t + w)) (hl : b (10 + 2 * (t / 4)) = a (10 + 2 * (t / 4))) : TI m b t := by
  have e0 : b (22 + 7 * t) = a (22 + 7 * t) := hp 0 (by decide)
  unfold TI at h ⊢
  rw [e0, hp 1 (by decide), hp 2 (by decide), hp 3 (by decide), hp 4 (by decide), hp 5 (by decide), hp 6 (by decide), hl]
  obtain ⟨h1, h2, h3, h4⟩ := h
  refine ⟨h1, h2, h3, fun q => ?_⟩
  obtain ⟨k1, k2, k3, k4, k5⟩ := h4 q
  exact ⟨k1, k2, ⟨k3.1, by omega⟩, ⟨k4.1, by omega⟩, k5⟩
theorem ncuts_congr {a b : Nat → Int32} (h : ∀ t, t < 24 → b (22 + 7 * t) = a (22 + 7 * t)) : ncuts b = ncuts a := by
  have e : ∀ t, t < 24 → cutB b t = cutB a t := fun t ht => by unfold cutB; rw [qcut_of (h t ht)]
  exact Nat.le_antisymm (cnt_le 24 0 (fun j _ h2 hp => by rw [← e j (by omega)]; exact hp)) (cnt_le 24 0 (fun j _ h2 hp => by rw [e j (by omega)]; exact hp))
theorem Iv.congr {n : Nat} {a b : Nat → Int32} (h : Iv n a) (e : ∀ j, j < 190 → b j = a j) : Iv n b := by
  obtain ⟨h1, h2, h3, h4, h5, c1, c2, c3, c4, c5, c6, c7⟩ := h
  refine ⟨fun t ht => (h1 t ht).keep (Nat.le_refl n) (fun w hw => e _ (by omega)) (e _ (by omega)), ?_, ?_, ?_, fun c hc => ?_, ?_, ?_, ?_, ?_, ?_, ?_, ?_⟩
  · rw [e 0 (by decide)]; exact h2
  · rw [e 1 (by decide)]; exact h3
  · rw [e 2 (by decide)]; exact h4
  · rw [e _ (by omega)]; exact h5 c hc
  · rw [e 3 (by decide)]; exact c1
  · rw [e 4 (by decide)]; exact c2
  · rw [e 3 (by decide), e 4 (by decide), ncuts_congr (fun t ht => e _ (by omega))]; exact c3
  · rw [e 6 (by decide)]; exact c4
  · rw [e 7 (by decide)]; exact c5
  · rw [e 8 (by decide)]; exact c6
  · unfold SL at c7 ⊢
    rw [e 10 (by decide), e 12 (by decide), e 14 (by decide), e 16 (by decide), e 18 (by decide), e 20 (by decide), e 6 (by decide), e 7 (by decide), e 8 (by decide)]; exact c7
theorem CI.mono {n m : Nat} {a : Nat → Int32} (h : CI n a) (hnm : n ≤ m) : CI m a := by
  obtain ⟨c1, c2, c3, c4, c5, c6, c7⟩ := h
  exact ⟨⟨c1.1, by omega⟩, ⟨c2.1, by omega⟩, c3, ⟨c4.1, by omega⟩, ⟨c5.1, by omega⟩, ⟨c6.1, by omega⟩, c7⟩
theorem Iv.mono {n m : Nat} {a : Nat → Int32} (h : Iv n a) (hnm : n ≤ m) : Iv m a :=
  ⟨fun t ht => (h.1 t ht).keep hnm (fun _ _ => rfl) rfl, h.2.1, h.2.2.1, h.2.2.2.1, h.2.2.2.2.1, h.2.2.2.2.2.mono hnm⟩
theorem Iv.nrm {n : Nat} {a : Nat → Int32} (h : Iv n a) : Nrm a := fun t ht => by
  obtain ⟨⟨h1, _⟩, _, h3, _⟩ := h.1 t ht
  unfold qmo
  by_cases hc : qcut a t = 0
  · rw [if_pos hc]; exact h3 (by have := qcut_z.mp hc; omega)
  · rw [if_neg hc]
theorem Iv.cutp {n : Nat} {a : Nat → Int32} (_ : Iv n a) {t : Nat} (hc : ¬ qcut a t = 0) : 0 < (a (22 + 7 * t)).toInt := qcut_pos' hc
theorem Iv.bd {n : Nat} {a : Nat → Int32} (h : Iv n a) : Bd a := by
  refine ⟨fun t ht => ⟨(h.1 t ht).1, (h.1 t ht).2.1⟩, h.2.1, h.2.2.1, h.2.2.2.1, fun t ht => ?_⟩
  by_cases hc : qcut a t = 0
  · exact Or.inl (by unfold qmo; rw [if_pos hc])
  · obtain ⟨_, _, _, h4⟩ := h.1 t ht
    have hm := (h4 (h.cutp hc)).2.2.2.2.2.1
    unfold qmo
    rw [if_neg hc]
    rcases hm with hm | ⟨u, hu, _, hm⟩
    · exact Or.inl hm
    · exact Or.inr ⟨u, hu, hm⟩
/-- one number of the machine is set -/
theorem Iv.set {n : Nat} {a : Nat → Int32} {j : Nat} {x : Int32} (h : Iv n a) (hj : j < 10) (hj3 : j ≠ 3) (hj4 : j ≠ 4) (hj6 : j ≠ 6) (hj7 : j ≠ 7) (hj8 : j ≠ 8) (h0 : j = 0 ∨ j = 1 → 0 ≤ x.toInt ∧ x.toInt ≤ 100) (h2 : j = 2 → 0 ≤ x.toInt ∧ x.toInt ≤ 20) : Iv n (upd a j x) := by
  obtain ⟨k1, k2, k3, k4, k5, c1, c2, c3, c4, c5, c6, c7⟩ := h
  refine ⟨fun t ht => (k1 t ht).keep (Nat.le_refl n) (fun w hw => upd_n (by omega)) (upd_n (by omega)), ?_, ?_, ?_, fun c hc => ?_, ?_, ?_, ?_, ?_, ?_, ?_, ?_⟩
  · by_cases q : j = 0
    · rw [q, upd_s]; exact h0 (Or.inl q)
    · rw [upd_n (by omega)]; exact k2
  · by_cases q : j = 1
    · rw [q, upd_s]; exact h0 (Or.inr q)
    · rw [upd_n (by omega)]; exact k3
  · by_cases q : j = 2
    · rw [q, upd_s]; exact h2 q
    · rw [upd_n (by omega)]; exact k4
  · rw [upd_n (by omega)]; exact k5 c hc
  · rw [upd_n (by omega)]; exact c1
  · rw [upd_n (by omega)]; exact c2
  · rw [upd_n (by omega), upd_n (by omega), ncuts_congr (fun t ht => upd_n (by omega))]; exact c3
  · rw [upd_n (by omega)]; exact c4
  · rw [upd_n (by omega)]; exact c5
  · rw [upd_n (by omega)]; exact c6
  · unfold SL at c7 ⊢
    simp (disch := omega) only [upd_n]; exact c7
theorem Iv.ref {n : Nat} {a : Nat → Int32} (h : Iv n a) : Iv n (b_ref a) := h.set (by decide) (by decide) (by decide) (by decide) (by decide) (by decide) (fun q => by omega) (fun q => by omega)
theorem Iv.cut {n : Nat} {a : Nat → Int32} (h : Iv n a) (hn : n < 1000) {t : Nat} (ht : t < 24) {d c f g m by_ : Int32} {k : Nat} (hk : k = 3 ∨ k = 4) (hd : 0 < d.toInt ∧ d.toInt ≤ 9) (hc : 0 ≤ c.toInt ∧ c.toInt ≤ 85) (hf : 0 ≤ f.toInt ∧ f.toInt ≤ 20) (hg : 0 ≤ g.toInt ∧ g.toInt ≤ (n : Int) + 1)
    (hgm : g.toInt = 0 ↔ m = -1) (hm : m = -1 ∨ ∃ u : Nat, u < 24 ∧ u / 4 ≠ t / 4 ∧ m = nI u) (hl : d.toInt ≤ (a (10 + 2 * (t / 4))).toInt) (hb : 0 ≤ (a 1 - by_).toInt ∧ (a 1 - by_).toInt ≤ 100) : Iv (n + 1) (b_cut a t d c f g m by_ k) := by
  obtain ⟨k1, k2, k3, k4, k5, c1, c2, c3, c4, c5, c6, c7⟩ := h
  have ho : ∀ s, s ≠ t → ∀ w, w < 7 → b_cut a t d c f g m by_ k (22 + 7 * s + w) = a (22 + 7 * s + w) := fun s hs w hw => by unfold b_cut; simp (disch := omega) only [upd_n]
  have hly : ∀ j, 10 ≤ j → j < 22 → b_cut a t d c f g m by_ k j = a j := fun j h1 h2 => by unfold b_cut; simp (disch := omega) only [upd_n]
  have hjj : ∀ j, 2 ≤ j → j < 10 → j ≠ k → b_cut a t d c f g m by_ k j = a j := fun j h1 h2 h3 => by unfold b_cut; simp (disch := omega) only [upd_n]
  have hkk : b_cut a t d c f g m by_ k k = a k + 1 := by unfold b_cut; rw [upd_s]
  have ek : (a k + 1).toInt = (a k).toInt + 1 := by
    have : 0 ≤ (a k).toInt ∧ (a k).toInt ≤ n := by rcases hk with rfl | rfl <;> assumption
    rw [i_add (by rw [i_1]; omega) (by rw [i_1]; omega), i_1]
  have hnc : ncuts (b_cut a t d c f g m by_ k) ≤ ncuts a + 1 := cnt_one (t := t) 24 0 (fun j _ _ hj hp => by
    rw [cutB_t] at hp ⊢
    rw [qcut_of (show a (22 + 7 * j) = b_cut a t d c f g m by_ k (22 + 7 * j) from (ho j hj 0 (by decide)).symm)]
    exact hp)
  refine ⟨fun s hs => ?_, ?_, ?_, ?_, fun q hq => ?_, ?_, ?_, ?_, ?_, ?_, ?_, ?_⟩
  · by_cases hst : s = t
    · subst hst
      unfold TI
      rw [show b_cut a s d c f g m by_ k (22 + 7 * s) = d by unfold b_cut; simp (disch := omega) only [upd_s, upd_n], show b_cut a s d c f g m by_ k (22 + 7 * s + 1) = c by unfold b_cut; simp (disch := omega) only [upd_s, upd_n],
        show b_cut a s d c f g m by_ k (22 + 7 * s + 2) = f by unfold b_cut; simp (disch := omega) only [upd_s, upd_n], show b_cut a s d c f g m by_ k (22 + 7 * s + 3) = g by unfold b_cut; simp (disch := omega) only [upd_s, upd_n],
        show b_cut a s d c f g m by_ k (22 + 7 * s + 4) = m by unfold b_cut; simp (disch := omega) only [upd_s, upd_n], show b_cut a s d c f g m by_ k (22 + 7 * s + 5) = c by unfold b_cut; simp (disch := omega) only [upd_s, upd_n],
        show b_cut a s d c f g m by_ k (22 + 7 * s + 6) = 0 by unfold b_cut; simp (disch := omega) only [upd_s, upd_n], hly _ (by omega) (by omega)]
      exact ⟨by omega, hc, fun q => by omega, fun _ => ⟨⟨Int.le_refl _, hc.2⟩, hf, ⟨hg.1, by omega⟩, ⟨by rw [i_0]; omega, by rw [i_0]; omega⟩, hgm, hm, hl⟩⟩
    · exact (k1 s hs).keep (by omega) (ho s hst) (hly _ (by omega) (by omega))
  · rw [show b_cut a t d c f g m by_ k 0 = qsa (a 0) d by unfold b_cut; simp (disch := omega) only [upd_s, upd_n]]
    have := qsa_b (s := a 0) (d := d) (by omega) (by omega) (by omega) (by omega)
    omega
  · rw [show b_cut a t d c f g m by_ k 1 = a 1 - by_ by unfold b_cut; simp (disch := omega) only [upd_s, upd_n]]; exact hb
  · rw [hjj 2 (by decide) (by decide) (by omega)]; exact k4
  · rw [hly _ (by omega) (by omega)]; exact k5 q hq
  · rcases hk with rfl | rfl
    · rw [hkk, ek]; omega
    · rw [hjj 3 (by decide) (by decide) (by decide)]; omega
  · rcases hk with rfl | rfl
    · rw [hjj 4 (by decide) (by decide) (by decide)]; omega
    · rw [hkk, ek]; omega
  · rcases hk with rfl | rfl
    · rw [hkk, ek, hjj 4 (by decide) (by decide) (by decide)]; omega
    · rw [hkk, ek, hjj 3 (by decide) (by decide) (by decide)]; omega
  · rw [hjj 6 (by decide) (by decide) (by omega)]; omega
  · rw [hjj 7 (by decide) (by decide) (by omega)]; omega
  · rw [hjj 8 (by decide) (by decide) (by omega)]; omega
  · unfold SL at c7 ⊢
    rw [hly 10 (by decide) (by decide), hly 12 (by decide) (by decide), hly 14 (by decide) (by decide), hly 16 (by decide) (by decide), hly 18 (by decide) (by decide), hly 20 (by decide) (by decide), hjj 6 (by decide) (by decide) (by omega), hjj 7 (by decide) (by decide) (by omega), hjj 8 (by decide) (by decide) (by omega)]; exact c7
theorem Iv.speak {n : Nat} {a : Nat → Int32} (h : Iv n a) (hn : n < 1000) {t : Nat} (ht : t < 24) {l : Int32} (hl : 1 ≤ l ∧ l ≤ 9) : Iv (n + 1) (aspeak a t l) := by
  unfold aspeak
  by_cases hq : qsr a t l = 0
  · rw [if_pos hq]
    obtain ⟨hl1, hl9⟩ := hl
    rw [i_le, i_1] at hl1
    rw [i_le, i_9] at hl9
    have hb := blunt_b h.2.1
    have e1 := i_mul (a := 5) (b := l) (by rw [i_5]; omega) (by rw [i_5]; omega)
    rw [i_5] at e1
    have e2 := i_add (a := 40) (b := 5 * l) (by rw [i_40]; omega) (by rw [i_40]; omega)
    rw [i_40] at e2
    have e3 := i_sub (a := 40 + 5 * l) (b := (100 - a 0) / 4) (by omega) (by omega)
    have hsp : 10 ≤ a 1 ∧ l ≤ a (10 + 2 * (t / 4)) := by
      unfold qsr at hq
      by_cases q1 : qcut a t = 0
      · rw [if_pos q1] at hq
        by_cases q2 : l ≤ a (10 + 2 * (t / 4))
        · rw [if_pos q2] at hq
          by_cases q3 : 10 ≤ a 1
          · exact ⟨q3, q2⟩
          · rw [if_neg q3] at hq; exact absurd hq (by decide)
        · rw [if_neg q2] at hq; exact absurd hq (by decide)
      · rw [if_neg q1] at hq; exact absurd hq (by decide)
    rw [i_le, i_10, i_le] at hsp
    have B1 := h.2.2.1
    have hfl := qfl_b (st := a) h.2.2.1
    have e4 := i_sub (a := a 1) (b := 10) (by rw [i_10]; omega) (by rw [i_10]; omega)
    rw [i_10] at e4
    exact h.cut hn ht (Or.inl rfl) ⟨by omega, by omega⟩ ⟨by omega, by omega⟩ ⟨by omega, by omega⟩ ⟨by rw [i_0]; omega, by rw [i_0]; omega⟩ ⟨fun _ => rfl, fun _ => rfl⟩ (Or.inl rfl) hsp.2 ⟨by omega, by omega⟩
  · rw [if_neg hq]; exact h.ref.mono (by omega)
theorem qcr_0 {a : Nat → Int32} {f t : Nat} {l : Int32} (hq : qcr a f t l = 0) : ¬ qcut a f = 0 ∧ qcut a t = 0 ∧ f / 4 ≠ t / 4 ∧ qcd (a (22 + 7 * f)) l ≤ a (10 + 2 * (t / 4)) ∧ 20 ≤ a 1 := by
  unfold qcr at hq
  by_cases q1 : qcut a f = 0
  · rw [if_pos q1] at hq; exact absurd hq (by decide)
  · rw [if_neg q1] at hq
    by_cases q2 : qcut a t = 0
    · rw [if_pos q2] at hq
      by_cases q3 : f / 4 = t / 4
      · rw [if_pos q3] at hq; exact absurd hq (by decide)
      · rw [if_neg q3] at hq
        by_cases q4 : qcd (a (22 + 7 * f)) l ≤ a (10 + 2 * (t / 4))
        · rw [if_pos q4] at hq
          by_cases q5 : 20 ≤ a 1
          · exact ⟨q1, q2, q3, q4, q5⟩
          · rw [if_neg q5] at hq; exact absurd hq (by decide)
        · rw [if_neg q4] at hq; exact absurd hq (by decide)
    · rw [if_neg q2] at hq; exact absurd hq (by decide)
theorem Iv.copy {n : Nat} {a : Nat → Int32} (h : Iv n a) (hn : n < 1000) {f t : Nat} (hf : f < 24) (ht : t < 24) {l : Int32} (hl : 1 ≤ l) : Iv (n + 1) (acopy a f t l) := by
  unfold acopy
  by_cases hq : qcr a f t l = 0
  · rw [if_pos hq]
    obtain ⟨q1, q2, q3, q4, q5⟩ := qcr_0 hq
    rw [i_le, i_1] at hl
    rw [i_le, i_20] at q5
    rw [i_le] at q4
    have B1 := h.2.2.1
    have e4 := i_sub (a := a 1) (b := 20) (by rw [i_20]; omega) (by rw [i_20]; omega)
    rw [i_20] at e4
    have hF := h.1 f hf
    have hc := hF.2.1
    have hfl := qfl_b (st := a) B1
    have hcl := qcc_b (c := a (22 + 7 * f + 1)) (l := l) (s := a 0) (f := qfl a) ⟨hc.1, by omega⟩ hl h.2.1 hfl
    obtain ⟨k1, k2, k3, k4, k5, k6, k7⟩ := hF.2.2.2 (qcut_pos' q1)
    have ef := i_add (a := a (22 + 7 * f + 2)) (b := qfl a) (by omega) (by omega)
    have eg := i_add (a := a (22 + 7 * f + 3)) (b := 1) (by rw [i_1]; omega) (by rw [i_1]; omega)
    rw [i_1] at eg
    refine h.cut hn ht (Or.inr rfl) (qcd_b _ _) ⟨hcl.1, by unfold qcl; omega⟩ ?_ ⟨by omega, by omega⟩ ⟨fun q => by omega, fun q => absurd q (pneg (by omega))⟩ (Or.inr ⟨f, hf, q3, rfl⟩) q4 ⟨by omega, by omega⟩
    split
    · rename_i q; rw [i_lt, i_20] at q; omega
    · rw [i_20]; omega
  · rw [if_neg hq]; exact h.ref.mono (by omega)
theorem Iv.play {n : Nat} {a : Nat → Int32} (h : Iv n a) (hn : n < 1000) {t : Nat} (ht : t < 24) : Iv (n + 1) (aplay a t) := by
  unfold aplay
  by_cases hq : qpr a t = 0
  · rw [if_pos hq]
    have hcp : ¬ qcut a t = 0 ∧ 5 ≤ a 1 := by
      unfold qpr at hq
      by_cases q1 : qcut a t = 0
      · rw [if_pos q1] at hq; exact absurd hq (by decide)
      · rw [if_neg q1] at hq
        by_cases q2 : 5 ≤ a 1
        · exact ⟨q1, q2⟩
        · rw [if_neg q2] at hq; exact absurd hq (by decide)
    obtain ⟨q1, q2⟩ := hcp
    rw [i_le, i_5] at q2
    obtain ⟨k1, k2, k3, k4, k5, c1, c2, c3, c4, c5, c6, c7⟩ := h
    have e4 := i_sub (a := a 1) (b := 5) (by rw [i_5]; omega) (by rw [i_5]; omega)
    rw [i_5] at e4
    generalize hb : upd (upd (upd (upd a (22 + 7 * t + 1) (qsa (a (22 + 7 * t + 1)) (a 2))) (22 + 7 * t + 6) (a (22 + 7 * t + 6) + 1)) 1 (a 1 - 5)) 5 (a 5 + 1) = b
    have hjj : ∀ j, j < 22 → j ≠ 1 → j ≠ 5 → b j = a j := fun j h1 h2 h3 => by rw [← hb]; simp (disch := omega) only [upd_n]
    have ho : ∀ s w, w < 7 → (s ≠ t ∨ (w ≠ 1 ∧ w ≠ 6)) → b (22 + 7 * s + w) = a (22 + 7 * s + w) := fun s w hw hs => by rw [← hb]; simp (disch := omega) only [upd_n]
    have eb1 : b 1 = a 1 - 5 := by rw [← hb]; simp (disch := omega) only [upd_n, upd_s]
    have ec1 : b (22 + 7 * t + 1) = qsa (a (22 + 7 * t + 1)) (a 2) := by rw [← hb]; simp (disch := omega) only [upd_n, upd_s]
    have ec6 : b (22 + 7 * t + 6) = a (22 + 7 * t + 6) + 1 := by rw [← hb]; simp (disch := omega) only [upd_n, upd_s]
    refine ⟨fun s hs => ?_, ?_, ?_, ?_, fun q hq => ?_, ?_, ?_, ?_, ?_, ?_, ?_, ?_⟩
    · by_cases hst : s = t
      · subst hst
        have hT := k1 s hs
        obtain ⟨t1, t2, t3, t4⟩ := hT
        obtain ⟨p1, p2, p3, p4, p5, p6, p7⟩ := t4 (qcut_pos' q1)
        have hqs := qsa_b (s := a (22 + 7 * s + 1)) (d := a 2) t2.1 (by omega) k4.1 (by omega)
        have e6 := i_add (a := a (22 + 7 * s + 6)) (b := 1) (by rw [i_1]; omega) (by rw [i_1]; omega)
        rw [i_1] at e6
        unfold TI
        rw [show b (22 + 7 * s) = a (22 + 7 * s) from ho s 0 (by decide) (Or.inr (by decide)), ec1, ec6, ho s 2 (by decide) (Or.inr (by decide)), ho s 3 (by decide) (Or.inr (by decide)), ho s 4 (by decide) (Or.inr (by decide)), ho s 5 (by decide) (Or.inr (by decide)), hjj _ (by omega) (by omega) (by omega)]
        exact ⟨t1, ⟨hqs.1, by omega⟩, t3, fun _ => ⟨⟨by omega, p1.2⟩, p2, ⟨p3.1, by omega⟩, ⟨by omega, by omega⟩, p5, p6, p7⟩⟩
      · exact (k1 s hs).keep (by omega) (fun w hw => ho s w hw (Or.inl hst)) (hjj _ (by omega) (by omega) (by omega))
    · rw [hjj 0 (by decide) (by decide) (by decide)]; exact k2
    · rw [eb1]; omega
    · rw [hjj 2 (by decide) (by decide) (by decide)]; exact k4
    · rw [hjj _ (by omega) (by omega) (by omega)]; exact k5 q hq
    · rw [hjj 3 (by decide) (by decide) (by decide)]; omega
    · rw [hjj 4 (by decide) (by decide) (by decide)]; omega
    · rw [hjj 3 (by decide) (by decide) (by decide), hjj 4 (by decide) (by decide) (by decide), ncuts_congr (fun s _ => ho s 0 (by decide) (Or.inr (by decide)))]; exact c3
    · rw [hjj 6 (by decide) (by decide) (by decide)]; omega
    · rw [hjj 7 (by decide) (by decide) (by decide)]; omega
    · rw [hjj 8 (by decide) (by decide) (by decide)]; omega
    · unfold SL at c7 ⊢
      rw [hjj 10 (by decide) (by decide) (by decide), hjj 12 (by decide) (by decide) (by decide), hjj 14 (by decide) (by decide) (by decide), hjj 16 (by decide) (by decide) (by decide), hjj 18 (by decide) (by decide) (by decide), hjj 20 (by decide) (by decide) (by decide), hjj 6 (by decide) (by decide) (by decide), hjj 7 (by decide) (by decide) (by decide), hjj 8 (by decide) (by decide) (by decide)]; exact c7
  · rw [if_neg hq]; exact h.ref.mono (by omega)
/-! smoothing -/
theorem b_sm_u (st : Nat → Int32) (c : Nat) : b_sm st c = upd (upd (upd (upd (upd (upd (upd (upd st (22 + 7 * (4 * c)) 0) (22 + 7 * (4 * c) + 4) (-1)) (22 + 7 * (4 * c + 1)) 0) (22 + 7 * (4 * c + 1) + 4) (-1)) (22 + 7 * (4 * c + 1 + 1)) 0) (22 + 7 * (4 * c + 1 + 1) + 4) (-1)) (22 + 7 * (4 * c + 1 + 1 + 1)) 0) (22 + 7 * (4 * c + 1 + 1 + 1) + 4) (-1) := rfl
theorem sm_j (st : Nat → Int32) (c : Nat) {j : Nat} (hj : j < 22) : b_sm st c j = st j := by
  rw [b_sm_u]; simp (disch := omega) only [upd_n]
theorem sm_o (st : Nat → Int32) (c : Nat) {t w : Nat} (hw : w < 7) (h : t / 4 ≠ c ∨ (w ≠ 0 ∧ w ≠ 4)) : b_sm st c (22 + 7 * t + w) = st (22 + 7 * t + w) := by
  rw [b_sm_u]; simp (disch := omega) only [upd_n]
theorem sm_t (st : Nat → Int32) {c t : Nat} (h : t / 4 = c) : b_sm st c (22 + 7 * t) = 0 ∧ b_sm st c (22 + 7 * t + 4) = -1 := by
  rw [b_sm_u]
  rcases (show t = 4 * c ∨ t = 4 * c + 1 ∨ t = 4 * c + 1 + 1 ∨ t = 4 * c + 1 + 1 + 1 by omega) with rfl | rfl | rfl | rfl
  all_goals (constructor <;> simp (disch := omega) only [upd_s, upd_n])
theorem SL_u {a : Nat → Int32} {c : Nat} (hc : c < 6) (x : Int32) : SL (upd a (10 + 2 * c) x) = SL a - (a (10 + 2 * c)).toInt + x.toInt := by
  unfold SL
  have e0 : (a (10 + 2 * 0)).toInt = (a 10).toInt := rfl
  have e1 : (a (10 + 2 * 1)).toInt = (a 12).toInt := rfl
  have e2 : (a (10 + 2 * 2)).toInt = (a 14).toInt := rfl
  have e3 : (a (10 + 2 * 3)).toInt = (a 16).toInt := rfl
  have e4 : (a (10 + 2 * 4)).toInt = (a 18).toInt := rfl
  have e5 : (a (10 + 2 * 5)).toInt = (a 20).toInt := rfl
  rcases (show c = 0 ∨ c = 1 ∨ c = 2 ∨ c = 3 ∨ c = 4 ∨ c = 5 by omega) with rfl | rfl | rfl | rfl | rfl | rfl
  all_goals
    simp (disch := decide) only [upd_s, upd_n]
    omega
/-- a wax whose cylinder c is smooth now, its layers and accounts new -/
theorem Iv.smooth {n m : Nat} {a b : Nat → Int32} (h : Iv n a) (hnm : n ≤ m) {c : Nat} (hc : c < 6) (ho : ∀ t w, w < 7 → b (22 + 7 * t + w) = a (22 + 7 * t + w)) (hj : ∀ j, j < 22 → j ≠ 10 + 2 * c → j ≠ 10 + 2 * c + 1 → j ≠ 6 → j ≠ 7 → j ≠ 8 → b j = a j) (hl : 0 ≤ (b (10 + 2 * c)).toInt ∧ (b (10 + 2 * c)).toInt ≤ 100)
    (h6 : 0 ≤ (b 6).toInt ∧ (b 6).toInt ≤ 1000 * ((m : Int) + 1)) (h7 : 0 ≤ (b 7).toInt ∧ (b 7).toInt ≤ 1000 * ((m : Int) + 1)) (h8 : 0 ≤ (b 8).toInt ∧ (b 8).toInt ≤ 1000 * ((m : Int) + 1)) (hs : SL b + (b 6).toInt + (b 8).toInt = (b 7).toInt) : Iv m (b_sm b c) := by
  obtain ⟨k1, k2, k3, k4, k5, c1, c2, c3, c4, c5, c6, c7⟩ := h
  have hnc : ncuts (b_sm b c) ≤ ncuts a := cnt_le 24 0 (fun j _ _ hp => by
    rw [cutB_t] at hp ⊢
    intro q
    apply hp
    by_cases hjc : j / 4 = c
    · rw [qcut_z, (sm_t b hjc).1, i_0]; omega
    · rw [qcut_of (b := a) ((sm_o b c (t := j) (w := 0) (by decide) (Or.inl hjc)).trans (ho j 0 (by decide)))]; exact q)
  refine ⟨fun t ht => ?_, ?_, ?_, ?_, fun q hq => ?_, ?_, ?_, ?_, ?_, ?_, ?_, ?_⟩
  · by_cases htc : t / 4 = c
    · unfold TI
      rw [(sm_t b htc).1, (sm_t b htc).2, sm_o b c (t := t) (w := 1) (by decide) (Or.inr (by decide)), ho t 1 (by decide)]
      exact ⟨by rw [i_0]; omega, (k1 t ht).2.1, fun _ => rfl, fun q => absurd q (by rw [i_0]; omega)⟩
    · refine (k1 t ht).keep hnm (fun w hw => (sm_o b c hw (Or.inl htc)).trans (ho t w hw)) ?_
      rw [sm_j b c (by omega), hj _ (by omega) (by omega) (by omega) (by omega) (by omega) (by omega)]
  · rw [sm_j b c (by decide), hj 0 (by decide) (by omega) (by omega) (by decide) (by decide) (by decide)]; exact k2
  · rw [sm_j b c (by decide), hj 1 (by decide) (by omega) (by omega) (by decide) (by decide) (by decide)]; exact k3
  · rw [sm_j b c (by decide), hj 2 (by decide) (by omega) (by omega) (by decide) (by decide) (by decide)]; exact k4
  · rw [sm_j b c (by omega)]
    by_cases hqc : q = c
    · rw [hqc]; exact hl
    · rw [hj _ (by omega) (by omega) (by omega) (by omega) (by omega) (by omega)]; exact k5 q hq
  · rw [sm_j b c (by decide), hj 3 (by decide) (by omega) (by omega) (by decide) (by decide) (by decide)]; omega
  · rw [sm_j b c (by decide), hj 4 (by decide) (by omega) (by omega) (by decide) (by decide) (by decide)]; omega
  · rw [sm_j b c (by decide), hj 3 (by decide) (by omega) (by omega) (by decide) (by decide) (by decide), sm_j b c (by decide), hj 4 (by decide) (by omega) (by omega) (by decide) (by decide) (by decide)]; omega
  · rw [sm_j b c (by decide)]; exact h6
  · rw [sm_j b c (by decide)]; exact h7
  · rw [sm_j b c (by decide)]; exact h8
  · unfold SL at hs ⊢
    rw [sm_j b c (show 10 < 22 by decide), sm_j b c (show 12 < 22 by decide), sm_j b c (show 14 < 22 by decide), sm_j b c (show 16 < 22 by decide), sm_j b c (show 18 < 22 by decide), sm_j b c (show 20 < 22 by decide), sm_j b c (show 6 < 22 by decide), sm_j b c (show 7 < 22 by decide), sm_j b c (show 8 < 22 by decide)]; exact hs
theorem qdeep_b {n : Nat} {a : Nat → Int32} (h : Iv n a) {c : Nat} (hc : c < 6) : (0 ≤ (qdeep a c).toInt ∧ (qdeep a c).toInt ≤ 9) ∧ (qdeep a c).toInt ≤ (a (10 + 2 * c)).toInt ∧ (∀ t, t / 4 = c → (a (22 + 7 * t)).toInt ≤ (qdeep a c).toInt) ∧ (qdeep a c = 0 ∨ ∃ t, t / 4 = c ∧ qdeep a c = a (22 + 7 * t)) := by
  obtain ⟨h1, h2, h3⟩ := lpmax (fun t => a (22 + 7 * t)) 4 (4 * c) 0
  have hd : qdeep a c = lp (fun t x => qmax x (a (22 + 7 * t))) 4 (4 * c) 0 := rfl
  rw [← hd] at h1 h2 h3
  have h2' : ∀ t, t / 4 = c → (a (22 + 7 * t)).toInt ≤ (qdeep a c).toInt := fun t ht => by
    have := h2 t (by omega) (by omega)
    rw [i_le] at this; exact this
  rw [i_le, i_0] at h1
  have h5 := h.2.2.2.2.1 c hc
  rcases h3 with h3 | ⟨t, t1, t2, h3⟩
  · exact ⟨⟨h1, by rw [h3, i_0]; omega⟩, by rw [h3, i_0]; omega, h2', Or.inl h3⟩
  · have ht : t / 4 = c := by omega
    obtain ⟨k1, k2, k3, k4⟩ := h.1 t (by omega)
    refine ⟨⟨h1, by rw [h3]; exact k1.2⟩, ?_, h2', Or.inr ⟨t, ht, h3⟩⟩
    rw [h3]
    by_cases hp : 0 < (a (22 + 7 * t)).toInt
    · have := (k4 hp).2.2.2.2.2.2
      rw [ht] at this; exact this
    · omega
theorem Iv.shave {n : Nat} {a : Nat → Int32} (h : Iv n a) (hn : n < 1000) {c : Nat} (hc : c < 6) : Iv (n + 1) (ashave a c) := by
  unfold ashave
  by_cases hq : qdeep a c = 0
  · rw [if_pos hq]; exact h.ref.mono (by omega)
  · rw [if_neg hq]
    obtain ⟨d1, d2, _, _⟩ := qdeep_b h hc
    have hl := h.2.2.2.2.1 c hc
    obtain ⟨c1, c2, c3, c4, c5, c6, c7⟩ := h.2.2.2.2.2
    generalize hd : qdeep a c = d at d1 d2
    have e1 := i_sub (a := a (10 + 2 * c)) (b := d) (by omega) (by omega)
    have e2 := i_add (a := a 6) (b := d) (by omega) (by omega)
    have b10 : ash a c d (10 + 2 * c) = a (10 + 2 * c) - d := by unfold ash; simp (disch := omega) only [upd_s, upd_n]
    have b6 : ash a c d 6 = a 6 + d := by unfold ash; simp (disch := omega) only [upd_s, upd_n]
    have b7 : ash a c d 7 = a 7 := by unfold ash; simp (disch := omega) only [upd_n]
    have b8 : ash a c d 8 = a 8 := by unfold ash; simp (disch := omega) only [upd_n]
    have hSL : SL (ash a c d) = SL a - (a (10 + 2 * c)).toInt + (a (10 + 2 * c) - d).toInt := by
      rw [← SL_u hc]
      unfold SL ash
      simp (disch := omega) only [upd_n]
    refine h.smooth (b := ash a c d) (by omega) hc (fun t w hw => ?_) (fun j h1 h2 h3 h4 h5 h6 => ?_) ?_ ?_ ?_ ?_ ?_
    · unfold ash; simp (disch := omega) only [upd_n]
    · unfold ash; simp (disch := omega) only [upd_n]
    · rw [b10]; omega
    · rw [b6]; omega
    · rw [b7]; omega
    · rw [b8]; omega
    · rw [hSL, b6, b7, b8]; omega
theorem Iv.renew {n : Nat} {a : Nat → Int32} (h : Iv n a) (hn : n < 1000) {c : Nat} (hc : c < 6) {x : Int32} (hx : 0 ≤ x.toInt ∧ x.toInt ≤ 100) : Iv (n + 1) (b_sm (arn a c x) c) := by
  have hl := h.2.2.2.2.1 c hc
  obtain ⟨c1, c2, c3, c4, c5, c6, c7⟩ := h.2.2.2.2.2
  have e1 := i_add (a := a 8) (b := a (10 + 2 * c)) (by omega) (by omega)
  have e2 := i_add (a := a 7) (b := x) (by omega) (by omega)
  have b10 : arn a c x (10 + 2 * c) = x := by unfold arn; simp (disch := omega) only [upd_s, upd_n]
  have b6 : arn a c x 6 = a 6 := by unfold arn; simp (disch := omega) only [upd_n]
  have b7 : arn a c x 7 = a 7 + x := by unfold arn; simp (disch := omega) only [upd_s, upd_n]
  have b8 : arn a c x 8 = a 8 + a (10 + 2 * c) := by unfold arn; simp (disch := omega) only [upd_s, upd_n]
  have hSL : SL (arn a c x) = SL a - (a (10 + 2 * c)).toInt + x.toInt := by
    rw [← SL_u hc]
    unfold SL arn
    simp (disch := omega) only [upd_n]
  refine h.smooth (b := arn a c x) (by omega) hc (fun t w hw => ?_) (fun j h1 h2 h3 h4 h5 h6 => ?_) ?_ ?_ ?_ ?_ ?_
  · unfold arn; simp (disch := omega) only [upd_n]
  · unfold arn; simp (disch := omega) only [upd_n]
  · rw [b10]; exact hx
  · rw [b6]; omega
  · rw [b7]; omega
  · rw [b8]; omega
  · rw [hSL, b6, b7, b8]; omega
