/-! PURE: numbers, loops, views (no machine) -/
theorem padd (a b : Nat) : nI a + nI b = nI (a + b) := (Int32.ofNat_add a b).symm
theorem pmul (a b : Nat) : nI a * nI b = nI (a * b) := (Int32.ofNat_mul a b).symm
theorem pzix {i n : Nat} (h : i < n) (hn : n < 2 ^ 31) : z_ix (nI i) n = True := eq_true (nI_in h hn)
theorem pcl {i : Nat} (h : i < 2 ^ 31) : (nI i).toNatClampNeg = i := nI_clamp h
theorem p22 (t : Nat) : (22 : Int32) + 7 * nI t = nI (22 + 7 * t) := by
  rw [show (22 : Int32) = nI 22 from rfl, show (7 : Int32) = nI 7 from rfl, pmul, padd]
theorem p10 (t : Nat) : (10 : Int32) + 2 * nI t = nI (10 + 2 * t) := by
  rw [show (10 : Int32) = nI 10 from rfl, show (2 : Int32) = nI 2 from rfl, pmul, padd]
theorem p4m (t : Nat) : (4 : Int32) * nI t = nI (4 * t) := by
  rw [show (4 : Int32) = nI 4 from rfl, pmul]
theorem pm4 (t : Nat) : nI t * (4 : Int32) = nI (4 * t) := by
  rw [show (4 : Int32) = nI 4 from rfl, pmul, Nat.mul_comm]
theorem pa1 (n : Nat) : nI n + 1 = nI (n + 1) := (nI_succ n).symm
theorem pa2 (n : Nat) : nI n + 2 = nI (n + 2) := by rw [show (2 : Int32) = nI 2 from rfl, padd]
theorem pa3 (n : Nat) : nI n + 3 = nI (n + 3) := by rw [show (3 : Int32) = nI 3 from rfl, padd]
theorem pa4 (n : Nat) : nI n + 4 = nI (n + 4) := by rw [show (4 : Int32) = nI 4 from rfl, padd]
theorem pa5 (n : Nat) : nI n + 5 = nI (n + 5) := by rw [show (5 : Int32) = nI 5 from rfl, padd]
theorem pa6 (n : Nat) : nI n + 6 = nI (n + 6) := by rw [show (6 : Int32) = nI 6 from rfl, padd]
theorem pge {a b : Nat} (h : a < b) (hb : b < 2 ^ 31) : ¬ nI b ≤ nI a := nI_ge h hb
theorem ple {a b : Nat} (h : a ≤ b) (hb : b < 2 ^ 31) : nI a ≤ nI b := nI_le h hb
theorem pinj {a b : Nat} (ha : a < 2 ^ 31) (hb : b < 2 ^ 31) : (nI a = nI b) ↔ a = b :=
  ⟨fun h => by have := congrArg Int32.toNatClampNeg h; rwa [nI_clamp ha, nI_clamp hb] at this, fun h => by rw [h]⟩
theorem pneg {a : Nat} (ha : a < 2 ^ 31) : nI a ≠ (-1 : Int32) := fun h => by
  have h2 := congrArg Int32.toInt h
  rw [nI_toInt ha] at h2
  have h3 : (-1 : Int32).toInt = -1 := by decide
  omega
/-- out of the range 0 .. n-1, or nI of a number below n -/
theorem pcase (x : Int32) : x < 0 ∨ ∃ t : Nat, t < 2 ^ 31 ∧ x = nI t := by
  by_cases h : x < 0
  · exact Or.inl h
  · have h0 : ¬ x.toInt < 0 := fun q => h (Int32.lt_iff_toInt_lt.mpr (by simpa using q))
    have h1 : x.toInt < 2 ^ 31 := Int32.toInt_lt x
    refine Or.inr ⟨x.toInt.toNat, by omega, ?_⟩
    apply Int32.toInt_inj.mp
    rw [nI_toInt (by omega)]
    omega
theorem pdiv4 {t : Nat} (ht : t < 2 ^ 31) : nI t / 4 = nI (t / 4) := by
  apply Int32.toInt_inj.mp
  rw [Int32.toInt_div, nI_toInt ht, nI_toInt (by omega)]
  have h4 : (4 : Int32).toInt = 4 := by decide
  rw [h4]
  have e : (Int.tdiv (t : Int) 4) = ((t / 4 : Nat) : Int) := by
    rw [Int.tdiv_eq_ediv_of_nonneg (by omega)]
    omega
  rw [e, Int.bmod_eq_of_le (by omega) (by omega)]
/-- a loop's work: m times f, from k on -/
def lp {α : Type} (f : Nat → α → α) : Nat → Nat → α → α
  | 0, _, a => a
  | m + 1, k, a => lp f m (k + 1) (f k a)
theorem lp_congr {α : Type} {f g : Nat → α → α} : ∀ (m k : Nat) (a : α), (∀ j, k ≤ j → j < k + m → ∀ a, f j a = g j a) → lp f m k a = lp g m k a := by
  intro m
  induction m with
  | zero => intro k a _; rfl
  | succ m ih =>
    intro k a h
    show lp f m (k + 1) (f k a) = lp g m (k + 1) (g k a)
    rw [h k (Nat.le_refl k) (by omega) a]
    exact ih (k + 1) _ (fun j h1 h2 => h j (by omega) (by omega))
theorem lp_inv {α : Type} {f : Nat → α → α} (P : α → Prop) : ∀ (m k : Nat) (a : α), P a → (∀ j, k ≤ j → j < k + m → ∀ a, P a → P (f j a)) → P (lp f m k a) := by
  intro m
  induction m with
  | zero => intro k a h _; exact h
  | succ m ih =>
    intro k a h hs
    exact ih (k + 1) _ (hs k (Nat.le_refl k) (by omega) a h) (fun j h1 h2 => hs j (by omega) (by omega))
/-- what a Wax holds, in the reference's order -/
def V (μ : Mm) (b : Nat) : Nat → Int32 := fun j => if j < 10 then μ b (9 + j) else if j < 22 then (if j % 2 = 0 then μ (b + 8) ((j - 10) / 2) else μ (b + 9) ((j - 10) / 2)) else μ (b + 1 + (j - 22) % 7) ((j - 22) / 7)
theorem V_st (μ : Mm) (b j : Nat) (h : j < 10) : V μ b j = μ b (9 + j) := if_pos h
theorem V_ly (μ : Mm) (b c : Nat) (h : c < 6) : V μ b (10 + 2 * c) = μ (b + 8) c := by
  unfold V
  rw [if_neg (by omega), if_pos (by omega), if_pos (by omega), show (10 + 2 * c - 10) / 2 = c by omega]
theorem V_sh (μ : Mm) (b c : Nat) (h : c < 6) : V μ b (10 + 2 * c + 1) = μ (b + 9) c := by
  unfold V
  rw [if_neg (by omega), if_pos (by omega), if_neg (by omega), show (10 + 2 * c + 1 - 10) / 2 = c by omega]
theorem V_tr (μ : Mm) (b t c : Nat) (h : c < 7) : V μ b (22 + 7 * t + c) = μ (b + 1 + c) t := by
  unfold V
  rw [if_neg (by omega), if_neg (by omega), show (22 + 7 * t + c - 22) % 7 = c by omega, show (22 + 7 * t + c - 22) / 7 = t by omega]
theorem V_d (μ : Mm) (b t : Nat) : V μ b (22 + 7 * t) = μ (b + 1) t := V_tr μ b t 0 (by decide)
theorem V_same {μ ν : Mm} {b : Nat} (h : ∀ c, c < 10 → ν (b + c) = μ (b + c)) : V ν b = V μ b := by
  funext j
  unfold V
  rw [show ν b = μ b from h 0 (by decide), h 8 (by decide), h 9 (by decide), show ν (b + 1 + (j - 22) % 7) = μ (b + 1 + (j - 22) % 7) by
    rw [Nat.add_assoc]; exact h _ (by omega)]
/-! specs over such a row of 190 -/
def qcut (st : Nat → Int32) (t : Nat) : Int32 := if st (22 + 7 * t) ≤ 0 then 0 else 1
def qfl (st : Nat → Int32) : Int32 := if st 1 < 50 then (50 - st 1) / 5 else 0
def qmax (a b : Int32) : Int32 := if a < b then b else a
def qcd (d l : Int32) : Int32 := if (if 1 < ((d * l) / 2) then ((d * l) / 2) else 1) < 9 then (if 1 < ((d * l) / 2) then ((d * l) / 2) else 1) else 9
def qsa (s d : Int32) : Int32 := if 0 < (s - d) then (s - d) else 0
def qcc (c l s f : Int32) : Int32 := if 0 < (((c - (12 / l)) - ((100 - s) / 4)) - f) then (((c - (12 / l)) - ((100 - s) / 4)) - f) else 0
def qsr (st : Nat → Int32) (t : Nat) (l : Int32) : Int32 := if qcut st t = 0 then (if l ≤ st (10 + 2 * (t / 4)) then (if 10 ≤ st 1 then 0 else 3) else 2) else 1
def qcr (st : Nat → Int32) (f t : Nat) (l : Int32) : Int32 := if qcut st f = 0 then 1 else if qcut st t = 0 then (if f / 4 = t / 4 then 3 else if qcd (st (22 + 7 * f)) l ≤ st (10 + 2 * (t / 4)) then (if 20 ≤ st 1 then 0 else 5) else 4) else 2
def qcl (st : Nat → Int32) (f : Nat) (l : Int32) : Int32 := qcc (st (22 + 7 * f + 1)) l (st 0) (qfl st)
def qdeep (st : Nat → Int32) (c : Nat) : Int32 := lp (fun t a => qmax a (st (22 + 7 * t))) 4 (4 * c) 0
def qcuton (st : Nat → Int32) (c : Nat) : Int32 := lp (fun t a => if qcut st t = 0 then a + 0 else a + 1) 4 (4 * c) 0
def qcuts (st : Nat → Int32) : Int32 := lp (fun t a => if qcut st t = 0 then a + 0 else a + 1) 24 0 0
def qn (a : Nat) : Int32 := if a = 0 then -1 else nI (a - 1)
def qcton (st : Nat → Int32) (c : Nat) : Nat := lp (fun t a => if qcut st t = 0 then a else if a = 0 then t + 1 else if st (22 + 7 * t + 1) ≤ st (22 + 7 * (a - 1) + 1) then a else t + 1) 4 (4 * c) 0
abbrev qbet (st : Nat → Int32) (t a : Nat) : Prop := if st (22 + 7 * t + 1) = st (22 + 7 * a + 1) then ¬ st (22 + 7 * a + 2) ≤ st (22 + 7 * t + 2) else ¬ st (22 + 7 * t + 1) ≤ st (22 + 7 * a + 1)
def qct (st : Nat → Int32) : Nat := lp (fun t a => if qcut st t = 0 then a else if a = 0 then t + 1 else if qbet st t (a - 1) then t + 1 else a) 24 0 0
def qlay (st : Nat → Int32) : Int32 := lp (fun c a => a + st (10 + 2 * c)) 6 0 0
def qsum (st : Nat → Int32) (w : Nat) : Int32 := lp (fun t a => if qcut st t = 0 then a + 0 else a + st (22 + 7 * t + w)) 24 0 0
def qmo (st : Nat → Int32) (t : Nat) : Int32 := if qcut st t = 0 then -1 else st (22 + 7 * t + 4)
/-- two rows that say the same: all but mothers of smooth tracks -/
def Eqv (a b : Nat → Int32) : Prop := (∀ j, j < 190 → (∀ t, j ≠ 22 + 7 * t + 4) → a j = b j) ∧ ∀ t, t < 24 → qmo a t = qmo b t
theorem Eqv.d {a b : Nat → Int32} (h : Eqv a b) {t : Nat} (ht : t < 24) : a (22 + 7 * t) = b (22 + 7 * t) := h.1 _ (by omega) (fun s => by omega)
theorem Eqv.tr {a b : Nat → Int32} (h : Eqv a b) {t : Nat} (ht : t < 24) (c : Nat) (hc : c < 7) (h4 : c ≠ 4) : a (22 + 7 * t + c) = b (22 + 7 * t + c) := h.1 _ (by omega) (fun s => by omega)
theorem Eqv.st {a b : Nat → Int32} (h : Eqv a b) {j : Nat} (hj : j < 22) : a j = b j := h.1 _ (by omega) (fun s => by omega)
theorem Eqv.cut {a b : Nat → Int32} (h : Eqv a b) {t : Nat} (ht : t < 24) : qcut a t = qcut b t := by unfold qcut; rw [h.d ht]
theorem Eqv.fl {a b : Nat → Int32} (h : Eqv a b) : qfl a = qfl b := by unfold qfl; rw [h.st (by decide : 1 < 22)]
theorem Eqv.sr {a b : Nat → Int32} (h : Eqv a b) {t : Nat} (ht : t < 24) (l : Int32) : qsr a t l = qsr b t l := by
  unfold qsr; rw [h.cut ht, h.st (show 10 + 2 * (t / 4) < 22 by omega), h.st (by decide : 1 < 22)]
theorem Eqv.cr {a b : Nat → Int32} (h : Eqv a b) {f t : Nat} (hf : f < 24) (ht : t < 24) (l : Int32) : qcr a f t l = qcr b f t l := by
  unfold qcr; rw [h.cut ht, h.cut hf, h.d hf, h.st (show 10 + 2 * (t / 4) < 22 by omega), h.st (by decide : 1 < 22)]
theorem Eqv.cl {a b : Nat → Int32} (h : Eqv a b) {f : Nat} (hf : f < 24) (l : Int32) : qcl a f l = qcl b f l := by
  unfold qcl; rw [h.tr hf 1 (by decide) (by decide), h.st (by decide : 0 < 22), h.fl]
theorem Eqv.deep {a b : Nat → Int32} (h : Eqv a b) {c : Nat} (hc : c < 6) : qdeep a c = qdeep b c := lp_congr _ _ _ (fun j h1 h2 x => by rw [h.d (show j < 24 by omega)])
theorem Eqv.cuton {a b : Nat → Int32} (h : Eqv a b) {c : Nat} (hc : c < 6) : qcuton a c = qcuton b c := lp_congr _ _ _ (fun j h1 h2 x => by rw [h.cut (show j < 24 by omega)])
theorem Eqv.cuts {a b : Nat → Int32} (h : Eqv a b) : qcuts a = qcuts b := lp_congr _ _ _ (fun j h1 h2 x => by rw [h.cut (show j < 24 by omega)])
theorem Eqv.lay {a b : Nat → Int32} (h : Eqv a b) : qlay a = qlay b := lp_congr _ _ _ (fun j h1 h2 x => by rw [h.st (show 10 + 2 * j < 22 by omega)])
theorem Eqv.sum {a b : Nat → Int32} (h : Eqv a b) {w : Nat} (hw : w < 7) (h4 : w ≠ 4) : qsum a w = qsum b w := lp_congr _ _ _ (fun j h1 h2 x => by rw [h.cut (show j < 24 by omega), h.tr (show j < 24 by omega) w hw h4])
theorem lp_inv2 {α : Type} {f g : Nat → α → α} (P : α → Prop) : ∀ (m k : Nat) (a : α), P a → (∀ j, k ≤ j → j < k + m → ∀ a, P a → f j a = g j a ∧ P (f j a)) → lp f m k a = lp g m k a := by
  intro m
  induction m with
  | zero => intro k a h _; rfl
  | succ m ih =>
    intro k a h hs
    obtain ⟨e, h1⟩ := hs k (Nat.le_refl k) (by omega) a h
    show lp f m (k + 1) (f k a) = lp g m (k + 1) (g k a)
    rw [← e]
    exact ih (k + 1) _ h1 (fun j h1 h2 => hs j (by omega) (by omega))
theorem Eqv.cton {a b : Nat → Int32} (h : Eqv a b) {c : Nat} (hc : c < 6) : qcton a c = qcton b c := by
  refine lp_inv2 (fun x => x ≤ 24) _ _ _ (by decide) (fun j h1 h2 x hx => ?_)
  rw [← h.cut (show j < 24 by omega), ← h.tr (show j < 24 by omega) 1 (by decide) (by decide)]
  by_cases h0 : x = 0
  · refine ⟨by rw [if_pos h0, if_pos h0], ?_⟩
    repeat' split
    all_goals omega
  · rw [← h.tr (show x - 1 < 24 by omega) 1 (by decide) (by decide)]
    refine ⟨rfl, ?_⟩
    repeat' split
    all_goals omega
theorem Eqv.ct {a b : Nat → Int32} (h : Eqv a b) : qct a = qct b := by
  refine lp_inv2 (fun x => x ≤ 24) _ _ _ (by decide) (fun j h1 h2 x hx => ?_)
  rw [← h.cut (show j < 24 by omega)]
  by_cases h0 : x = 0
  · refine ⟨by rw [if_pos h0, if_pos h0], ?_⟩
    repeat' split
    all_goals omega
  · have e : qbet b j (x - 1) = qbet a j (x - 1) := by
      unfold qbet
      rw [h.tr (show x - 1 < 24 by omega) 1 (by decide) (by decide), h.tr (show x - 1 < 24 by omega) 2 (by decide) (by decide), h.tr (show j < 24 by omega) 1 (by decide) (by decide), h.tr (show j < 24 by omega) 2 (by decide) (by decide)]
    refine ⟨by simp only [e], ?_⟩
    repeat' split
    all_goals omega
