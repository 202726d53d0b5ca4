/-! p30, PURE: numbers out of the script, and a call by two numbers -/
theorem and_nn (x : Int32) : 0 ≤ (x &&& 2147483647).toInt := by
  show 0 ≤ (x.toBitVec &&& (2147483647 : Int32).toBitVec).toInt
  apply BitVec.toInt_nonneg_of_msb_false
  rw [BitVec.msb_and, show (2147483647 : Int32).toBitVec.msb = false by decide, Bool.and_false]
theorem prem {a n : Nat} (ha : a < 2 ^ 31) (hn : 0 < n) (hn2 : n < 2 ^ 31) : nI a - nI a / nI n * nI n = nI (a % n) := by
  have hq : a / n ≤ a := Nat.div_le_self _ _
  have e : nI a / nI n = nI (a / n) := by
    apply Int32.toInt_inj.mp
    rw [i_div (by rw [nI_toInt ha]; omega) (by rw [nI_toInt hn2]; omega), nI_toInt ha, nI_toInt hn2, nI_toInt (by omega)]
    exact (Int.natCast_ediv a n).symm
  have hm := Nat.div_add_mod a n
  have e2 : nI a = nI (a % n) + nI (a / n * n) := by
    rw [padd, Nat.mul_comm (a / n) n]
    congr 1
    omega
  rw [e, pmul]
  calc nI a - nI (a / n * n) = (nI (a % n) + nI (a / n * n)) - nI (a / n * n) := by rw [← e2]
    _ = nI (a % n) := Int32.add_sub_cancel _ _
theorem low_ok (x : Int32) {n : Nat} (hn : 0 < n) (hn2 : n < 2 ^ 31) : ∃ k, k < n ∧ ∀ μ : Mm, f_L_low x (nI n) μ = some (nI k, μ) := by
  rcases pcase (x &&& 2147483647) with h | ⟨m, hm, e⟩
  · rw [i_lt, i_0] at h
    have := and_nn x
    omega
  · refine ⟨m % n, Nat.mod_lt _ hn, fun μ => ?_⟩
    unfold f_L_low
    rw [if_pos (show ¬ nI n = 0 from fun q => by have := (pinj (b := 0) hn2 (by decide)).mp q; omega), e, prem hm hn hn2]
theorem at_ok {L : Nat} (hL : L ≤ 260) (xs : Nat → Int32) {k : Nat} (hk : k < 1000) : ∃ r, ∀ μ : Mm, f_L_at L xs (nI k) μ = some (r, μ) := by
  by_cases h : nI k < Int32.ofNat L
  · have hkL : k < L := Classical.byContradiction fun q => nI_nlt (a := k) (b := L) (by omega) (by omega) h
    refine ⟨xs (nI k).toNatClampNeg, fun μ => ?_⟩
    unfold f_L_at
    rw [if_pos h, if_pos (by rw [pzix hkL (by omega)]; trivial)]
  · refine ⟨1030720407 * (nI k + 1) + 457006961, fun μ => ?_⟩
    unfold f_L_at
    rw [if_neg h]
/-- what is known of answers and new states -/
def OpS (R : (Nat → Int32) → Int32) (A : (Nat → Int32) → Nat → Int32) : Prop := (∀ (n : Nat) (a : Nat → Int32), n < 100 → Iv n a → -2 < (R a).toInt ∧ Iv (n + 1) (A a)) ∧ ∀ a b : Nat → Int32, (∀ j, j < 190 → a j = b j) → R a = R b
def OpX (o : Mm → Option (Int32 × Mm)) : Prop := ∃ R A, Op o R A ∧ OpS R A
theorem OpX.eqv {o o' : Mm → Option (Int32 × Mm)} (h : OpX o) (e : ∀ μ, o' μ = o μ) : OpX o' := by
  obtain ⟨R, A, h1, h2⟩ := h
  refine ⟨R, A, fun μ s T hd hT => ?_, h2⟩
  rw [e]; exact h1 μ s T hd hT
theorem OpX.id {o : Mm → Option (Int32 × Mm)} (h : OpX o) : OpX (fun μ => zb (o μ) (fun r m => some (r, m))) := h.eqv (fun μ => by
  cases h : o μ with
  | none => rfl
  | some q => rfl)
theorem eqv_of {a b : Nat → Int32} (h : ∀ j, j < 190 → a j = b j) : Eqv a b := ⟨fun j hj _ => h j hj, fun t ht => qmo_of (h _ (by omega)) (h _ (by omega))⟩
theorem qsr_b (a : Nat → Int32) (t : Nat) (l : Int32) : 0 ≤ (qsr a t l).toInt ∧ (qsr a t l).toInt ≤ 3 := by
  unfold qsr
  repeat' split
  all_goals decide
theorem qcr_b (a : Nat → Int32) (f t : Nat) (l : Int32) : 0 ≤ (qcr a f t l).toInt ∧ (qcr a f t l).toInt ≤ 5 := by
  unfold qcr
  repeat' split
  all_goals decide
theorem qpr_b (a : Nat → Int32) (t : Nat) : 0 ≤ (qpr a t).toInt ∧ (qpr a t).toInt ≤ 2 := by
  unfold qpr
  repeat' split
  all_goals decide
theorem opx_speak {t : Nat} (ht : t < 24) {l : Int32} (hl : 1 ≤ l ∧ l ≤ 9) : OpX (f_L_speak (nI t) l) :=
  ⟨_, _, op_speak ht hl, fun n a hn h => ⟨by have := qsr_b a t l; show -2 < (qsr a t l).toInt; omega, h.speak (by omega) ht hl⟩, fun a b e => (eqv_of e).sr ht l⟩
theorem opx_copy {f t : Nat} (hf : f < 24) (ht : t < 24) {l : Int32} (hl : 1 ≤ l ∧ l ≤ 3) : OpX (f_L_copy (nI f) (nI t) l) :=
  ⟨_, _, op_copy hf ht hl, fun n a hn h => ⟨by have := qcr_b a f t l; show -2 < (qcr a f t l).toInt; omega, h.copy (by omega) hf ht hl.1⟩, fun a b e => (eqv_of e).cr hf ht l⟩
theorem opx_play {t : Nat} (ht : t < 24) : OpX (f_L_play (nI t)) := by
  refine ⟨_, _, op_play ht, fun n a hn h => ⟨?_, h.play (by omega) ht⟩, fun a b e => ?_⟩
  · show -2 < (qplay a t).toInt
    unfold qplay
    have hb := qpr_b a t
    by_cases q : qpr a t = 0
    · rw [if_pos q]
      have hT := (h.1 t ht).2.1
      have hw := h.2.2.2.1
      have h1 := qsa_b (s := a (22 + 7 * t + 1)) (d := a 2) hT.1 (by omega) hw.1 (by omega)
      have h2 := i_add (a := 10) (b := qsa (a (22 + 7 * t + 1)) (a 2)) (by rw [i_10]; omega) (by rw [i_10]; omega)
      rw [i_10] at h2
      omega
    · rw [if_neg q]; omega
  · show qplay a t = qplay b t
    exact (eqv_of e).play ht
theorem opx_shave {c : Nat} (hc : c < 6) : OpX (f_L_shave (nI c)) := by
  refine ⟨_, _, op_shave hc, fun n a hn h => ⟨?_, h.shave (by omega) hc⟩, fun a b e => ?_⟩
  · show -2 < (qshave a c).toInt
    have hd := (qdeep_b h hc).1
    unfold qshave
    split
    · decide
    · omega
  · show qshave a c = qshave b c
    exact (eqv_of e).shave hc
theorem opx_renew {c : Nat} (hc : c < 6) {l : Int32} (hl : 0 ≤ l ∧ l ≤ 100) : OpX (f_L_renew (nI c) l) := by
  have hb : 0 ≤ l.toInt ∧ l.toInt ≤ 100 := by have := hl; rw [i_le, i_le, i_0, i_100] at this; exact this
  refine ⟨_, _, op_renew hc hl, fun n a hn h => ⟨?_, h.renew (by omega) hc hb⟩, fun a b e => e _ (by omega)⟩
  have := h.2.2.2.2.1 c hc
  show -2 < (a (10 + 2 * c)).toInt
  omega
theorem opx_set {l : Int32} (hl : 0 ≤ l ∧ l ≤ 20) : OpX (f_L_set l) := by
  have hb : 0 ≤ l.toInt ∧ l.toInt ≤ 20 := by have := hl; rw [i_le, i_le, i_0, i_20] at this; exact this
  refine ⟨_, _, op_set hl, fun n a hn h => ⟨?_, (h.set (by decide) (by decide) (by decide) (by decide) (by decide) (by decide) (fun q => by omega) (fun _ => hb)).mono (by omega)⟩, fun a b e => e 2 (by decide)⟩
  have := h.2.2.2.1
  show -2 < (a 2).toInt
  omega
theorem sub100 {x : Int32} (h : 0 ≤ x.toInt ∧ x.toInt ≤ 100) : (100 - x).toInt = 100 - x.toInt := by
  have := i_sub (a := 100) (b := x) (by rw [i_100]; omega) (by rw [i_100]; omega)
  rw [i_100] at this
  exact this
theorem opx_wind : OpX f_X3_wind := by
  refine ⟨_, _, op_wind, fun n a hn h => ⟨?_, (h.set (by decide) (by decide) (by decide) (by decide) (by decide) (by decide) (fun _ => by decide) (fun q => by omega)).mono (by omega)⟩, fun a b e => by show (100 : Int32) - a 1 = 100 - b 1; rw [e 1 (by decide)]⟩
  have := sub100 h.2.2.1
  have h1 := h.2.2.1
  show -2 < (100 - a 1).toInt
  omega
theorem opx_sharpen : OpX f_X3_sharpen := by
  refine ⟨_, _, op_sharpen, fun n a hn h => ⟨?_, (h.set (by decide) (by decide) (by decide) (by decide) (by decide) (by decide) (fun _ => by decide) (fun q => by omega)).mono (by omega)⟩, fun a b e => by show (100 : Int32) - a 0 = 100 - b 0; rw [e 0 (by decide)]⟩
  have := sub100 h.2.1
  have h1 := h.2.1
  show -2 < (100 - a 0).toInt
  omega
theorem p1add (k : Nat) : (1 : Int32) + nI k = nI (1 + k) := by rw [show (1 : Int32) = nI 1 from rfl, padd]
theorem nI_rng {a k b : Nat} (h1 : a ≤ k) (h2 : k ≤ b) (hb : b < 2 ^ 31) : nI a ≤ nI k ∧ nI k ≤ nI b := ⟨nI_le h1 (by omega), nI_le h2 hb⟩
theorem nI_ne {a b : Nat} (h : a ≠ b) (ha : a < 2 ^ 31) (hb : b < 2 ^ 31) : ¬ nI a = nI b := fun q => h ((pinj ha hb).mp q)
theorem opx_b96 (y : Int32) {t : Nat} (ht : t < 24) : OpX (f_L_act_b96 y (nI t)) := by
  obtain ⟨k, hk, e⟩ := low_ok y (n := 9) (by decide) (by decide)
  refine (opx_speak ht (l := nI (1 + k)) (nI_rng (a := 1) (b := 9) (by omega) (by omega) (by decide))).id.eqv (fun μ => ?_)
  unfold f_L_act_b96
  rw [show f_L_low y 9 μ = some (nI k, μ) from e μ, zb_of rfl, p1add]
theorem opx_b110 (y : Int32) {f t : Nat} (hf : f < 24) (ht : t < 24) : OpX (f_L_act_b110 y (nI f) (nI t)) := by
  obtain ⟨k, hk, e⟩ := low_ok y (n := 3) (by decide) (by decide)
  refine (opx_copy hf ht (l := nI (1 + k)) (nI_rng (a := 1) (b := 3) (by omega) (by omega) (by decide))).id.eqv (fun μ => ?_)
  unfold f_L_act_b110
  rw [show f_L_low y 3 μ = some (nI k, μ) from e μ, zb_of rfl, p1add]
theorem opx_b21 (x y z : Int32) {N : Nat} (hN : 0 < N) (hN2 : N ≤ 24) : OpX (f_L_act_b21 x y (nI N) z) := by
  obtain ⟨t, ht, e1⟩ := low_ok z (n := N) hN (by omega)
  obtain ⟨u, hu, e2⟩ := low_ok (x >>> (8 &&& 31)) (n := 24) (by decide) (by decide)
  obtain ⟨v, hv, e3⟩ := low_ok x (n := 13) (by decide) (by decide)
  have start : ∀ μ : Mm, f_L_act_b21 x y (nI N) z μ = (if nI v = 0 then (f_L_act_b96 y (nI t) μ) else (if nI v = 1 then (f_L_act_b96 y (nI t) μ) else (if nI v = 2 then (f_L_act_b96 y (nI t) μ) else (if nI v = 3 then (f_L_act_b110 y (nI t) (nI u) μ) else (if nI v = 4 then (f_L_act_b110 y (nI t) (nI u) μ) else (if nI v = 5 then (f_L_act_b110 y (nI t) (nI u) μ) else (if nI v = 6 then (f_L_act_b110 y (nI t) (nI u) μ) else (if nI v = 7 then (zb (f_L_play (nI t) μ) (fun r34 m35 => some (r34, m35))) else
      (if nI v = 8 then (zb (f_L_low y 2 μ) (fun r38 m39 => if r38 = 0 then (zb (f_L_low (y >>> (1 &&& 31)) 6 m39) (fun r48 m49 => zb (f_L_shave r48 m49) (fun r51 m52 => some (r51, m52)))) else (zb (f_L_low (y >>> (1 &&& 31)) 21 m39) (fun r42 m43 => zb (f_L_set r42 m43) (fun r45 m46 => some (r45, m46)))))) else
      (if nI v = 9 then (zb (f_L_low y 2 μ) (fun r55 m56 => if r55 = 0 then (zb (f_L_low (y >>> (1 &&& 31)) 6 m56) (fun r62 m63 => zb (f_L_low (y >>> (4 &&& 31)) 50 m63) (fun r65 m66 => zb (f_L_renew r62 r65 m66) (fun r68 m69 => some (r68, m69))))) else (zb (f_X3_sharpen m56) (fun r59 m60 => some (r59, m60))))) else (zb (f_X3_wind μ) (fun r71 m72 => some (r71, m72))))))))))))) := fun μ => by
    unfold f_L_act_b21
    rw [e1 μ, zb_of rfl, show f_L_low (x >>> (8 &&& 31)) 24 μ = some (nI u, μ) from e2 μ, zb_of rfl, show f_L_low x 13 μ = some (nI v, μ) from e3 μ, zb_of rfl]
  by_cases v0 : nI v = 0
  · exact (opx_b96 y (t := t) (by omega)).eqv (fun μ => by rw [start, if_pos v0])
  by_cases v1 : nI v = 1
  · exact (opx_b96 y (t := t) (by omega)).eqv (fun μ => by rw [start, if_neg v0, if_pos v1])
  by_cases v2 : nI v = 2
  · exact (opx_b96 y (t := t) (by omega)).eqv (fun μ => by rw [start, if_neg v0, if_neg v1, if_pos v2])
  by_cases v3 : nI v = 3
  · exact (opx_b110 y (f := t) (t := u) (by omega) hu).eqv (fun μ => by rw [start, if_neg v0, if_neg v1, if_neg v2, if_pos v3])
  by_cases v4 : nI v = 4
  · exact (opx_b110 y (f := t) (t := u) (by omega) hu).eqv (fun μ => by rw [start, if_neg v0, if_neg v1, if_neg v2, if_neg v3, if_pos v4])
  by_cases v5 : nI v = 5
  · exact (opx_b110 y (f := t) (t := u) (by omega) hu).eqv (fun μ => by rw [start, if_neg v0, if_neg v1, if_neg v2, if_neg v3, if_neg v4, if_pos v5])
  by_cases v6 : nI v = 6
  · exact (opx_b110 y (f := t) (t := u) (by omega) hu).eqv (fun μ => by rw [start, if_neg v0, if_neg v1, if_neg v2, if_neg v3, if_neg v4, if_neg v5, if_pos v6])
  by_cases v7 : nI v = 7
  · exact (opx_play (t := t) (by omega)).id.eqv (fun μ => by rw [start, if_neg v0, if_neg v1, if_neg v2, if_neg v3, if_neg v4, if_neg v5, if_neg v6, if_pos v7])
  obtain ⟨w, hw, e4⟩ := low_ok y (n := 2) (by decide) (by decide)
  obtain ⟨c, hc, e5⟩ := low_ok (y >>> (1 &&& 31)) (n := 6) (by decide) (by decide)
  obtain ⟨g, hg, e6⟩ := low_ok (y >>> (1 &&& 31)) (n := 21) (by decide) (by decide)
  obtain ⟨i, hi, e7⟩ := low_ok (y >>> (4 &&& 31)) (n := 50) (by decide) (by decide)
  by_cases v8 : nI v = 8
  · by_cases w0 : nI w = 0
    · exact (opx_shave hc).id.eqv (fun μ => by rw [start, if_neg v0, if_neg v1, if_neg v2, if_neg v3, if_neg v4, if_neg v5, if_neg v6, if_neg v7, if_pos v8, show f_L_low y 2 μ = some (nI w, μ) from e4 μ, zb_of rfl, if_pos w0, show f_L_low (y >>> (1 &&& 31)) 6 μ = some (nI c, μ) from e5 μ, zb_of rfl])
    · exact (opx_set (l := nI g) (nI_rng (a := 0) (b := 20) (by omega) (by omega) (by decide))).id.eqv (fun μ => by rw [start, if_neg v0, if_neg v1, if_neg v2, if_neg v3, if_neg v4, if_neg v5, if_neg v6, if_neg v7, if_pos v8, show f_L_low y 2 μ = some (nI w, μ) from e4 μ, zb_of rfl, if_neg w0, show f_L_low (y >>> (1 &&& 31)) 21 μ = some (nI g, μ) from e6 μ, zb_of rfl])
  by_cases v9 : nI v = 9
  · by_cases w0 : nI w = 0
    · exact (opx_renew hc (l := nI i) (nI_rng (a := 0) (b := 100) (by omega) (by omega) (by decide))).id.eqv (fun μ => by rw [start, if_neg v0, if_neg v1, if_neg v2, if_neg v3, if_neg v4, if_neg v5, if_neg v6, if_neg v7, if_neg v8, if_pos v9, show f_L_low y 2 μ = some (nI w, μ) from e4 μ, zb_of rfl, if_pos w0, show f_L_low (y >>> (1 &&& 31)) 6 μ = some (nI c, μ) from e5 μ, zb_of rfl, show f_L_low (y >>> (4 &&& 31)) 50 μ = some (nI i, μ) from e7 μ, zb_of rfl])
    · exact opx_sharpen.id.eqv (fun μ => by rw [start, if_neg v0, if_neg v1, if_neg v2, if_neg v3, if_neg v4, if_neg v5, if_neg v6, if_neg v7, if_neg v8, if_pos v9, show f_L_low y 2 μ = some (nI w, μ) from e4 μ, zb_of rfl, if_neg w0])
  · exact opx_wind.id.eqv (fun μ => by rw [start, if_neg v0, if_neg v1, if_neg v2, if_neg v3, if_neg v4, if_neg v5, if_neg v6, if_neg v7, if_neg v8, if_neg v9])
theorem opx_act (x y : Int32) : OpX (f_L_act x y) := by
  obtain ⟨v, hv, e⟩ := low_ok (x >>> (12 &&& 31)) (n := 2) (by decide) (by decide)
  by_cases h : nI v = 0
  · exact (opx_b21 x y (x >>> (4 &&& 31)) (N := 24) (by decide) (by decide)).eqv (fun μ => by unfold f_L_act; rw [show f_L_low (x >>> (12 &&& 31)) 2 μ = some (nI v, μ) from e μ, zb_of rfl, if_pos h]; rfl)
  · exact (opx_b21 x y (x >>> (4 &&& 31)) (N := 9) (by decide) (by decide)).eqv (fun μ => by unfold f_L_act; rw [show f_L_low (x >>> (12 &&& 31)) 2 μ = some (nI v, μ) from e μ, zb_of rfl, if_neg h]; rfl)
