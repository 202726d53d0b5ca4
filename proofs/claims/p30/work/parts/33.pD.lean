/-! PURE: mothers, properties, counts -/
def qway (mo : Nat → Int32) : Nat → Int32 → Nat → Int32
  | 0, _, _ => 0
  | m + 1, x, anc => if x < 0 then 0 else if 24 ≤ x then 0 else if x = nI anc then 1 else qway mo m (mo x.toNatClampNeg) anc
theorem qway_congr {f g : Nat → Int32} (h : ∀ t, t < 24 → f t = g t) : ∀ (m : Nat) (x : Int32) (anc : Nat), qway f m x anc = qway g m x anc := by
  intro m
  induction m with
  | zero => intro x anc; rfl
  | succ m ih =>
    intro x anc
    show (if x < 0 then (0 : Int32) else if 24 ≤ x then 0 else if x = nI anc then 1 else qway f m (f x.toNatClampNeg) anc) = (if x < 0 then (0 : Int32) else if 24 ≤ x then 0 else if x = nI anc then 1 else qway g m (g x.toNatClampNeg) anc)
    by_cases h1 : x < 0
    · rw [if_pos h1, if_pos h1]
    · rw [if_neg h1, if_neg h1]
      by_cases h2 : 24 ≤ x
      · rw [if_pos h2, if_pos h2]
      · rw [if_neg h2, if_neg h2]
        rcases pcase x with h3 | ⟨t, ht, rfl⟩
        · exact absurd h3 h1
        · have h4 : t < 24 := Nat.lt_of_not_le fun q => h2 (ple (a := 24) q ht)
          rw [pcl ht, h t h4, ih]
theorem c_way {μ : Mm} {anc : Nat} : ∀ (m k n : Nat) (x : Int32), k + m = 24 → m < n → f_X2_comesFrom_b10 n (nI anc) x (nI k) μ = some (qway (fun t => V μ 0 (22 + 7 * t + 4)) m x anc, μ) := by
  intro m
  induction m with
  | zero =>
    intro k n x hk hn
    obtain ⟨n, rfl⟩ : ∃ q, n = q + 1 := ⟨n - 1, by omega⟩
    rw [f_X2_comesFrom_b10, l24, if_pos (ple (by omega) (by omega))]
    rfl
  | succ m ih =>
    intro k n x hk hn
    obtain ⟨n, rfl⟩ : ∃ q, n = q + 1 := ⟨n - 1, by omega⟩
    rw [f_X2_comesFrom_b10, l24, if_neg (pge (by omega) (by omega))]
    show _ = some ((if x < 0 then (0 : Int32) else if nI 24 ≤ x then 0 else if x = nI anc then 1 else qway (fun t => V μ 0 (22 + 7 * t + 4)) m (V μ 0 (22 + 7 * x.toNatClampNeg + 4)) anc), μ)
    by_cases h1 : x < 0
    · rw [if_pos h1, if_pos h1]
    · rw [if_neg h1, if_neg h1]
      by_cases h2 : nI 24 ≤ x
      · rw [if_pos h2, if_pos h2]
      · rw [if_neg h2, if_neg h2]
        rcases pcase x with h3 | ⟨t, ht, rfl⟩
        · exact absurd h3 h1
        · have h4 : t < 24 := Nat.lt_of_not_le fun q => h2 (ple (a := 24) q ht)
          by_cases h5 : nI t = nI anc
          · rw [if_pos h5, if_pos h5]
          · rw [if_neg h5, if_neg h5]
            simp (disch := omega) only [pzix, pcl, if_true, pa1]
            rw [c_c4 (μ := μ) (t := t)]
            exact ih (k + 1) n _ (by omega) (by omega)
theorem c_comes {μ : Mm} {t anc : Nat} (ht : t < 24) : f_X2_comesFrom (nI t) (nI anc) μ = some (qway (fun t => V μ 0 (22 + 7 * t + 4)) 24 (V μ 0 (22 + 7 * t + 4)) anc, μ) := by
  simp (disch := omega) only [f_X2_comesFrom, pzix, pcl, if_true, c_c4]
  have h := c_way (μ := μ) (anc := anc) 24 0 z_F (μ 5 t) rfl (by decide)
  simp only [c_c4] at h
  exact h
/-- mothers are tracks -/
def Mok (st : Nat → Int32) : Prop := ∀ t, t < 24 → qmo st t = -1 ∨ ∃ u : Nat, u < 24 ∧ qmo st t = nI u
def qdau (st : Nat → Int32) (anc : Nat) : Int32 := lp (fun t a => if t = anc then a else if qway (qmo st) 24 (qmo st t) anc = 0 then a else a + 1) 24 0 0
/-- the class keeps no mother of a smooth track -/
def Nrm (st : Nat → Int32) : Prop := ∀ t, t < 24 → st (22 + 7 * t + 4) = qmo st t
theorem c_dau_l {μ : Mm} (hN : Nrm (V μ 0)) {anc : Nat} (ha : anc < 24) : ∀ (m k n : Nat) (a : Int32), k + m = 24 → m < n → f_X2_descendants_b4 n (nI anc) a (nI k) μ = some (lp (fun t a => if t = anc then a else if qway (qmo (V μ 0)) 24 (qmo (V μ 0) t) anc = 0 then a else a + 1) m k a, μ) := by
  intro m
  induction m with
  | zero =>
    intro k n a hk hn
    obtain ⟨n, rfl⟩ : ∃ q, n = q + 1 := ⟨n - 1, by omega⟩
    rw [f_X2_descendants_b4, l24, if_pos (ple (by omega) (by omega))]
    rfl
  | succ m ih =>
    intro k n a hk hn
    obtain ⟨n, rfl⟩ : ∃ q, n = q + 1 := ⟨n - 1, by omega⟩
    rw [f_X2_descendants_b4, l24, if_neg (pge (by omega) (by omega))]
    simp (disch := omega) only [c_comes, zb, pa1, pinj, hN k (by omega)]
    rw [qway_congr (f := fun t => V μ 0 (22 + 7 * t + 4)) (g := qmo (V μ 0)) hN]
    show _ = some (lp _ m (k + 1) (if k = anc then a else if qway (qmo (V μ 0)) 24 (qmo (V μ 0) k) anc = 0 then a else a + 1), μ)
    by_cases h : k = anc
    · rw [if_pos h, if_pos h]
      exact ih (k + 1) n a (by omega) (by omega)
    · rw [if_neg h, if_neg h]
      by_cases h2 : qway (qmo (V μ 0)) 24 (qmo (V μ 0) k) anc = 0
      · rw [if_pos h2, if_pos h2]
        exact ih (k + 1) n a (by omega) (by omega)
      · rw [if_neg h2, if_neg h2]
        exact ih (k + 1) n (a + 1) (by omega) (by omega)
theorem c_dau {μ : Mm} (hN : Nrm (V μ 0)) {anc : Nat} (ha : anc < 24) : f_X2_descendants (nI anc) μ = some (qdau (V μ 0) anc, μ) := c_dau_l hN ha 24 0 z_F 0 rfl (by decide)
theorem Eqv.dau {a b : Nat → Int32} (h : Eqv a b) (anc : Nat) : qdau a anc = qdau b anc :=
  lp_congr _ _ _ (fun j h1 h2 x => by rw [h.2 j (by omega), qway_congr h.2])
theorem Eqv.mok {a b : Nat → Int32} (h : Eqv a b) (hM : Mok a) : Mok b := fun t ht => by rw [← h.2 t ht]; exact hM t ht
/-! properties -/
def qtp (st : Nat → Int32) (t w : Nat) : Int32 := if w = 0 then st (22 + 7 * t) else if qcut st t = 0 then -1 else st (22 + 7 * t + w)
theorem w7 {P : Nat → Prop} (h0 : P 0) (h1 : P 1) (h2 : P 2) (h3 : P 3) (h4 : P 4) (h5 : P 5) (h6 : P 6) : ∀ w, w < 7 → P w := fun w hw => match w, hw with | 0, _ => h0 | 1, _ => h1 | 2, _ => h2 | 3, _ => h3 | 4, _ => h4 | 5, _ => h5 | 6, _ => h6 | n + 7, h => absurd h (by omega)
theorem c_tp {μ : Mm} {t : Nat} (ht : t < 24) : ∀ w, w < 7 → f_X2_trackProperty (nI t) (nI w) μ = some (qtp (V μ 0) t w, μ) := by
  have hh : ∀ w : Nat, w < 7 → (nI w = 0 ↔ w = 0) ∧ (nI w = 1 ↔ w = 1) ∧ (nI w = 2 ↔ w = 2) ∧ (nI w = 3 ↔ w = 3) ∧ (nI w = 4 ↔ w = 4) ∧ (nI w = 5 ↔ w = 5) := by decide
  intro w hw
  obtain ⟨e0, e1, e2, e3, e4, e5⟩ := hh w hw
  simp (disch := omega) only [f_X2_trackProperty, c_cut, zb, pzix, pcl, if_true, e0, e1, e2, e3, e4, e5]
  revert w
  refine w7 ?_ ?_ ?_ ?_ ?_ ?_ ?_ <;> intros <;> simp [qtp, V_d, c_c1, c_c2, c_c3, c_c4, c_c5, c_c6] <;> split <;> rfl
theorem Eqv.tp {a b : Nat → Int32} (h : Eqv a b) {t w : Nat} (ht : t < 24) (hw : w < 7) : qtp a t w = qtp b t w := by
  unfold qtp
  by_cases h0 : w = 0
  · rw [if_pos h0, if_pos h0, h.d ht]
  · rw [if_neg h0, if_neg h0, ← h.cut ht]
    by_cases h1 : qcut a t = 0
    · rw [if_pos h1, if_pos h1]
    · rw [if_neg h1, if_neg h1]
      by_cases h4 : w = 4
      · have e := h.2 t ht
        unfold qmo at e
        rw [← h.cut ht, if_neg h1, if_neg h1] at e
        rw [h4]; exact e
      · exact h.tr ht w hw h4
def qcp (st : Nat → Int32) (c w : Nat) : Int32 := if w = 0 then st (10 + 2 * c) else if w = 1 then qcuton st c else if w = 2 then qdeep st c else if w = 3 then qn (qcton st c) else st (10 + 2 * c + 1)
theorem c_cp {μ : Mm} {c : Nat} (hc : c < 6) {w : Nat} (hw : w < 5) : f_X2_cylinderProperty (nI c) (nI w) μ = some (qcp (V μ 0) c w, μ) := by
  have hh : ∀ w : Nat, w < 5 → (nI w = 0 ↔ w = 0) ∧ (nI w = 1 ↔ w = 1) ∧ (nI w = 2 ↔ w = 2) ∧ (nI w = 3 ↔ w = 3) := by decide
  obtain ⟨e0, e1, e2, e3⟩ := hh w hw
  simp (disch := omega) only [f_X2_cylinderProperty, c_cuton, c_deep, c_cton, zb, pzix, pcl, if_true, e0, e1, e2, e3, qcp, V_ly, V_sh]
  repeat' split
  all_goals rfl
theorem Eqv.cp {a b : Nat → Int32} (h : Eqv a b) {c w : Nat} (hc : c < 6) : qcp a c w = qcp b c w := by
  unfold qcp
  rw [h.st (show 10 + 2 * c < 22 by omega), h.st (show 10 + 2 * c + 1 < 22 by omega), h.cuton hc, h.deep hc, h.cton hc]
def qnum (st : Nat → Int32) (w : Nat) : Int32 := if w = 0 then st 0 else if w = 1 then st 1 else if w = 2 then qfl st else if w = 3 then qcuts st else if w = 4 then st 3 else if w = 5 then st 4 else if w = 6 then st 5 else if w = 7 then qlay st else if w = 8 then st 6 else if w = 9 then st 7 else if w = 10 then st 8 else st 9
theorem w12 {P : Nat → Prop} (h0 : P 0) (h1 : P 1) (h2 : P 2) (h3 : P 3) (h4 : P 4) (h5 : P 5) (h6 : P 6) (h7 : P 7) (h8 : P 8) (h9 : P 9) (h10 : P 10) (h11 : P 11) : ∀ w, w < 12 → P w := fun w hw => match w, hw with | 0, _ => h0 | 1, _ => h1 | 2, _ => h2 | 3, _ => h3 | 4, _ => h4 | 5, _ => h5 | 6, _ => h6 | 7, _ => h7 | 8, _ => h8 | 9, _ => h9 | 10, _ => h10 | 11, _ => h11 | n + 12, h => absurd h (by omega)
theorem c_num {μ : Mm} : ∀ w, w < 12 → f_X2_number (nI w) μ = some (qnum (V μ 0) w, μ) := by
  refine w12 rfl rfl ?_ ?_ rfl rfl rfl ?_ rfl rfl rfl rfl
  · show zb (f_X2_machineFlutter μ) (fun r m => some (r, m)) = some (qfl (V μ 0), μ)
    rw [c_fl]; rfl
  · show zb (f_X2_cutTracks μ) (fun r m => some (r, m)) = some (qcuts (V μ 0), μ)
    rw [c_cuts]; rfl
  · show zb (f_X2_layersTogether μ) (fun r m => some (r, m)) = some (qlay (V μ 0), μ)
    rw [c_lay]; rfl
theorem Eqv.num {a b : Nat → Int32} (h : Eqv a b) (w : Nat) : qnum a w = qnum b w := by
  unfold qnum
  rw [h.st (by decide : 0 < 22), h.st (by decide : 1 < 22), h.st (by decide : 3 < 22), h.st (by decide : 4 < 22), h.st (by decide : 5 < 22), h.st (by decide : 6 < 22), h.st (by decide : 7 < 22), h.st (by decide : 8 < 22), h.st (by decide : 9 < 22), h.fl, h.cuts, h.lay]
