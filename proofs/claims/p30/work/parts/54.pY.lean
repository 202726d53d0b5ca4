/-! PURE: mean depth, share of clearness -/
theorem cut_sum {st : Nat → Int32} {w B : Nat} (hB : ∀ t, t < 24 → 0 ≤ (st (22 + 7 * t + w)).toInt ∧ (st (22 + 7 * t + w)).toInt ≤ (B : Int)) : ∀ (m k c s : Nat), k + m ≤ 24 → s ≤ B * c → ∃ c' s' : Nat, lp (fun t a => if qcut st t = 0 then a + 0 else a + 1) m k (nI c) = nI c' ∧ lp (fun t a => if qcut st t = 0 then a + 0 else a + st (22 + 7 * t + w)) m k (nI s) = nI s' ∧ s' ≤ B * c' ∧ c' ≤ c + m := by
  intro m
  induction m with
  | zero => intro k c s _ hs; exact ⟨c, s, rfl, rfl, hs, Nat.le_refl _⟩
  | succ m ih =>
    intro k c s hk hs
    show ∃ c' s' : Nat, lp (fun t a => if qcut st t = 0 then a + 0 else a + 1) m (k + 1) (if qcut st k = 0 then nI c + 0 else nI c + 1) = nI c' ∧ lp (fun t a => if qcut st t = 0 then a + 0 else a + st (22 + 7 * t + w)) m (k + 1) (if qcut st k = 0 then nI s + 0 else nI s + st (22 + 7 * k + w)) = nI s' ∧ s' ≤ B * c' ∧ c' ≤ c + (m + 1)
    by_cases h : qcut st k = 0
    · rw [if_pos h, if_pos h, Int32.add_zero, Int32.add_zero]
      obtain ⟨c', s', e1, e2, e3, e4⟩ := ih (k + 1) c s (by omega) hs
      exact ⟨c', s', e1, e2, e3, by omega⟩
    · obtain ⟨x, hx, _, ex⟩ := of_b (hB k (by omega))
      rw [if_neg h, if_neg h, ex, pa1, padd]
      obtain ⟨c', s', e1, e2, e3, e4⟩ := ih (k + 1) (c + 1) (s + x) (by omega) (by rw [Nat.mul_add]; omega)
      exact ⟨c', s', e1, e2, e3, by omega⟩
theorem cut_sum0 {st : Nat → Int32} {w B : Nat} (hB : ∀ t, t < 24 → 0 ≤ (st (22 + 7 * t + w)).toInt ∧ (st (22 + 7 * t + w)).toInt ≤ (B : Int)) : ∃ c s : Nat, qcuts st = nI c ∧ qsum st w = nI s ∧ s ≤ B * c ∧ c ≤ 24 := by
  obtain ⟨c, s, e1, e2, e3, e4⟩ := cut_sum hB 24 0 0 0 (by decide) (Nat.zero_le _)
  exact ⟨c, s, e1, e2, e3, by omega⟩
theorem dep_eq {st : Nat → Int32} (hB : Bd st) : lp (fun t a => a + st (22 + 7 * t)) 24 0 0 = qsum st 0 := by
  refine lp_congr _ _ _ (fun j h1 h2 a => ?_)
  by_cases h : qcut st j = 0
  · rw [if_pos h]
    have h0 := (hB.1 j (by omega)).1.1
    have h3 : st (22 + 7 * j) ≤ 0 := Classical.byContradiction fun q => by
      unfold qcut at h; rw [if_neg q] at h; exact absurd h (by decide)
    rw [i_le, i_0] at h3
    rw [show st (22 + 7 * j) = 0 by rw [i_eq, i_0]; omega]
  · rw [if_neg h]; rfl
def qmean (st : Nat → Int32) : UInt32 := if qcuts st = 0 then FP.fconst0 else FP.fdiv (FP.i2f (qsum st 0)) (FP.i2f (qcuts st))
def qshare (st : Nat → Int32) : UInt64 := if qcuts st = 0 then FP.dconst0 else FP.ddiv (FP.i2d (qsum st 1)) (FP.i2d (100 * qcuts st))
theorem qmean_ok {st : Nat → Int32} (hB : Bd st) : okF (qmean st) = true := by
  obtain ⟨c, s, e1, e2, e3, e4⟩ := cut_sum0 (st := st) (w := 0) (B := 9) (fun t ht => (hB.1 t ht).1)
  unfold qmean
  rw [e1, e2]
  by_cases h : c = 0
  · rw [if_pos (by rw [h]; rfl)]; exact okF0
  · rw [if_neg (show ¬ nI c = 0 from fun q => h ((pinj (b := 0) (by omega) (by decide)).mp q))]; exact flt_ok c s (by omega) e4 e3
theorem qshare_ok {st : Nat → Int32} (hB : Bd st) : okD (qshare st) = true := by
  obtain ⟨c, s, e1, e2, e3, e4⟩ := cut_sum0 (st := st) (w := 1) (B := 85) (fun t ht => (hB.1 t ht).2)
  unfold qshare
  rw [e1, e2]
  by_cases h : c = 0
  · rw [if_pos (by rw [h]; rfl)]; exact okD0
  · rw [if_neg (show ¬ nI c = 0 from fun q => h ((pinj (b := 0) (by omega) (by decide)).mp q))]; exact dbl_ok c s (by omega) e4 e3
theorem okF_s {x : UInt32} (h : okF x = true) : z_n32 x ∧ z_n64 (FP.f2d x) ∧ (Op.cmpValue (FP.fcmp x x) CmpOp.l) = 0 ∧ qbits (FP.f2d x) 23 127 = some (x.toInt32).toInt64 := by
  unfold okF at h
  rw [Bool.and_eq_true, Bool.and_eq_true, Bool.and_eq_true] at h
  exact ⟨of_decide_eq_true h.1.1.1, of_decide_eq_true h.1.1.2, of_decide_eq_true h.1.2, of_decide_eq_true h.2⟩
theorem okD_s {x : UInt64} (h : okD x = true) : z_n64 x ∧ (Op.cmpValue (FP.dcmp x x) CmpOp.l) = 0 ∧ qbits x 52 1023 = some x.toInt64 := by
  unfold okD at h
  rw [Bool.and_eq_true, Bool.and_eq_true] at h
  exact ⟨of_decide_eq_true h.1.1, of_decide_eq_true h.1.2, of_decide_eq_true h.2⟩
theorem pos_iff {c : Nat} (hc : c ≤ 24) : (0 < nI c) ↔ ¬ nI c = 0 := by
  constructor
  · intro h q; rw [q] at h; exact absurd h (by decide)
  · intro h
    exact nI_lt (a := 0) (Nat.pos_of_ne_zero (fun q => h (by rw [q]; rfl))) (by omega)
theorem c_mean {μ : Mm} (hB : Bd (V μ 0)) : f_X3_meanDepth μ = some (qmean (V μ 0), μ) := by
  obtain ⟨c, s, e1, e2, e3, e4⟩ := cut_sum0 (st := V μ 0) (w := 0) (B := 9) (fun t ht => (hB.1 t ht).1)
  have hok := qmean_ok hB
  unfold qmean at hok ⊢
  unfold f_X3_meanDepth
  rw [c_cuts, zb_of rfl]
  rw [e1] at hok ⊢
  by_cases h : nI c = 0
  · rw [if_pos h, if_neg (fun q => (pos_iff e4).mp q h)]
  · rw [if_neg h, if_pos ((pos_iff e4).mpr h), c_dep, zb_of rfl, dep_eq hB]
    rw [if_neg h] at hok
    rw [if_pos (okF_s hok).1]
theorem c_share {μ : Mm} (hB : Bd (V μ 0)) : f_X3_clearShare μ = some (qshare (V μ 0), μ) := by
  obtain ⟨c, s, e1, e2, e3, e4⟩ := cut_sum0 (st := V μ 0) (w := 1) (B := 85) (fun t ht => (hB.1 t ht).2)
  have hok := qshare_ok hB
  unfold qshare at hok ⊢
  unfold f_X3_clearShare
  rw [c_cuts, zb_of rfl]
  rw [e1] at hok ⊢
  by_cases h : nI c = 0
  · rw [if_pos h, if_neg (fun q => (pos_iff e4).mp q h)]
  · rw [if_neg h, if_pos ((pos_iff e4).mpr h), c_clr, zb_of rfl]
    rw [if_neg h] at hok
    rw [if_pos (okD_s hok).1]
theorem Eqv.mean {a b : Nat → Int32} (h : Eqv a b) : qmean a = qmean b := by
  unfold qmean; rw [h.cuts, h.sum (w := 0) (by decide) (by decide)]
theorem Eqv.share {a b : Nat → Int32} (h : Eqv a b) : qshare a = qshare b := by
  unfold qshare; rw [h.cuts, h.sum (w := 1) (by decide) (by decide)]
