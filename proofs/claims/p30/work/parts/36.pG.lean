/-! PURE: the calls' work on the rows of 190 -/
def aspeak (a : Nat → Int32) (t : Nat) (l : Int32) : Nat → Int32 := if qsr a t l = 0 then b_cut a t l (40 + 5 * l - (100 - a 0) / 4) (qfl a) 0 (-1) 10 3 else b_ref a
def dspeak (a : Nat → Int32) (t : Nat) (l : Int32) : Nat → Int32 := if qsr a t l = 0 then d_cut a t l (40 + 5 * l - (100 - a 0) / 4) (qfl a) 0 (-1) 10 3 else b_ref a
theorem V_speak (μ : Mm) (t : Nat) (l : Int32) : V (w_speak μ t l) 0 = aspeak (V μ 0) t l := by
  unfold w_speak aspeak
  by_cases h : qsr (V μ 0) t l = 0
  · rw [if_pos h, if_pos h, V_cut12]; rfl
  · rw [if_neg h, if_neg h, V_ref]
theorem fr_speak (μ : Mm) (t : Nat) (l : Int32) {c : Nat} (h : 10 ≤ c) : w_speak μ t l c = μ c := by
  unfold w_speak
  split
  · exact fr_cut _ _ _ _ _ _ _ _ _ h
  · exact fr_ref _ h
theorem M_cut (μ : Mm) (t : Nat) (d c f g m by_ : Int32) (k : Nat) (hk : k = 3 ∨ k = 4) : v_cut (z_up μ 120 k (μ 120 k + 1)) t d c f g m by_ 120 = d_cut (μ 120) t d c f g m by_ k := by
  unfold v_cut d_cut
  simp (disch := omega) only [z_up_s, upd_n]
theorem M_ref (μ : Mm) : v_ref μ 120 = b_ref (μ 120) := by unfold v_ref b_ref; rw [z_up_s]
theorem M_speak (μ : Mm) (t : Nat) (l : Int32) : v_speak μ t l 120 = dspeak (μ 120) t l := by
  unfold v_speak dspeak
  by_cases h : qsr (μ 120) t l = 0
  · rw [if_pos h, if_pos h, M_cut _ _ _ _ _ _ _ _ 3 (Or.inl rfl)]; rfl
  · rw [if_neg h, if_neg h, M_ref]
theorem mf_cut (μ : Mm) (t : Nat) (d x f g m by_ : Int32) (k : Nat) {c : Nat} (h : c ≠ 120) : v_cut (z_up μ 120 k (μ 120 k + 1)) t d x f g m by_ c = μ c := by
  unfold v_cut
  simp (disch := omega) only [z_up_n]
theorem mf_ref (μ : Mm) {c : Nat} (h : c ≠ 120) : v_ref μ c = μ c := z_up_n _ _ _ h
theorem mf_speak (μ : Mm) (t : Nat) (l : Int32) {c : Nat} (h : c ≠ 120) : v_speak μ t l c = μ c := by
  unfold v_speak
  split
  · exact mf_cut _ _ _ _ _ _ _ _ _ h
  · exact mf_ref _ h
theorem hi_cut (b : Nat → Int32) {t : Nat} (ht : t < 24) (d c f g m by_ : Int32) {k j : Nat} (hk : k < 10) (hj : 190 ≤ j) : d_cut b t d c f g m by_ k j = b j := by
  unfold d_cut
  simp (disch := omega) only [upd_n]
theorem hi_ref (b : Nat → Int32) {j : Nat} (hj : 190 ≤ j) : b_ref b j = b j := upd_n (by omega)
theorem hi_speak (b : Nat → Int32) {t : Nat} (ht : t < 24) (l : Int32) {j : Nat} (hj : 190 ≤ j) : dspeak b t l j = b j := by
  unfold dspeak
  split
  · exact hi_cut b ht _ _ _ _ _ _ (by decide) hj
  · exact hi_ref b hj
theorem i_100 : (100 : Int32).toInt = 100 := by decide
theorem i_4 : (4 : Int32).toInt = 4 := by decide
theorem i_5 : (5 : Int32).toInt = 5 := by decide
theorem i_10 : (10 : Int32).toInt = 10 := by decide
theorem i_12 : (12 : Int32).toInt = 12 := by decide
theorem i_3 : (3 : Int32).toInt = 3 := by decide
theorem i_40 : (40 : Int32).toInt = 40 := by decide
theorem i_50 : (50 : Int32).toInt = 50 := by decide
theorem blunt_b {s : Int32} (h : 0 ≤ s.toInt ∧ s.toInt ≤ 100) : 0 ≤ ((100 - s) / 4).toInt ∧ ((100 - s) / 4).toInt ≤ 25 := by
  have e1 := i_sub (a := 100) (b := s) (by rw [i_100]; omega) (by rw [i_100]; omega)
  rw [i_100] at e1
  have e2 := i_div (a := 100 - s) (b := 4) (by omega) (by decide)
  rw [i_4] at e2
  omega
theorem qfl_b {st : Nat → Int32} (h : 0 ≤ (st 1).toInt ∧ (st 1).toInt ≤ 100) : 0 ≤ (qfl st).toInt ∧ (qfl st).toInt ≤ 10 := by
  unfold qfl
  split
  · rename_i h5
    rw [i_lt, i_50] at h5
    have e1 := i_sub (a := 50) (b := st 1) (by rw [i_50]; omega) (by rw [i_50]; omega)
    rw [i_50] at e1
    have e2 := i_div (a := 50 - st 1) (b := 5) (by omega) (by decide)
    rw [i_5] at e2
    omega
  · rw [i_0]; omega
def acopy (a : Nat → Int32) (f t : Nat) (l : Int32) : Nat → Int32 := if qcr a f t l = 0 then b_cut a t (qcd (a (22 + 7 * f)) l) (qcl a f l) (if a (22 + 7 * f + 2) + qfl a < 20 then a (22 + 7 * f + 2) + qfl a else 20) (a (22 + 7 * f + 3) + 1) (nI f) 20 4 else b_ref a
def dcopy (a : Nat → Int32) (f t : Nat) (l : Int32) : Nat → Int32 := if qcr a f t l = 0 then d_cut a t (qcd (a (22 + 7 * f)) l) (qcl a f l) (if a (22 + 7 * f + 2) + qfl a < 20 then a (22 + 7 * f + 2) + qfl a else 20) (a (22 + 7 * f + 3) + 1) (nI f) 20 4 else b_ref a
theorem V_copy (μ : Mm) (f t : Nat) (l : Int32) : V (w_copy μ f t l) 0 = acopy (V μ 0) f t l := by
  unfold w_copy acopy
  rw [c_c2, c_c3, V_d]
  by_cases h : qcr (V μ 0) f t l = 0
  · rw [if_pos h, if_pos h, V_cut13]; rfl
  · rw [if_neg h, if_neg h, V_ref]
theorem fr_copy (μ : Mm) (f t : Nat) (l : Int32) {c : Nat} (h : 10 ≤ c) : w_copy μ f t l c = μ c := by
  unfold w_copy
  split
  · exact fr_cut _ _ _ _ _ _ _ _ _ h
  · exact fr_ref _ h
theorem M_copy (μ : Mm) (f t : Nat) (l : Int32) : v_copy μ f t l 120 = dcopy (μ 120) f t l := by
  unfold v_copy dcopy
  by_cases h : qcr (μ 120) f t l = 0
  · rw [if_pos h, if_pos h, M_cut _ _ _ _ _ _ _ _ 4 (Or.inr rfl)]; rfl
  · rw [if_neg h, if_neg h, M_ref]
theorem mf_copy (μ : Mm) (f t : Nat) (l : Int32) {c : Nat} (h : c ≠ 120) : v_copy μ f t l c = μ c := by
  unfold v_copy
  split
  · exact mf_cut _ _ _ _ _ _ _ _ _ h
  · exact mf_ref _ h
theorem hi_copy (b : Nat → Int32) (f : Nat) {t : Nat} (ht : t < 24) (l : Int32) {j : Nat} (hj : 190 ≤ j) : dcopy b f t l j = b j := by
  unfold dcopy
  split
  · exact hi_cut b ht _ _ _ _ _ _ (by decide) hj
  · exact hi_ref b hj
theorem qcd_b (d l : Int32) : 0 < (qcd d l).toInt ∧ (qcd d l).toInt ≤ 9 := by
  unfold qcd
  generalize (d * l) / 2 = v
  have e1 := i_1
  have e9 := i_9
  repeat' split
  all_goals (simp only [i_lt] at *; omega)
theorem qcc_b {c l s f : Int32} (hc : 0 ≤ c.toInt ∧ c.toInt ≤ 100) (hl : 1 ≤ l.toInt) (hs : 0 ≤ s.toInt ∧ s.toInt ≤ 100) (hf : 0 ≤ f.toInt ∧ f.toInt ≤ 10) : 0 ≤ (qcc c l s f).toInt ∧ (qcc c l s f).toInt ≤ c.toInt := by
  have hb := blunt_b hs
  have e1 := i_div (a := 12) (b := l) (by decide) (by omega)
  rw [i_12] at e1
  have e2 : 0 ≤ 12 / l.toInt := Int.ediv_nonneg (by decide) (by omega)
  have e3 : 12 / l.toInt ≤ 12 := Int.ediv_le_self _ (by decide)
  have e4 := i_sub (a := c) (b := 12 / l) (by omega) (by omega)
  have e5 := i_sub (a := c - 12 / l) (b := (100 - s) / 4) (by omega) (by omega)
  have e6 := i_sub (a := c - 12 / l - (100 - s) / 4) (b := f) (by omega) (by omega)
  unfold qcc
  split
  · rename_i h
    rw [i_lt, i_0] at h
    omega
  · rw [i_0]; omega
theorem upd_comm {f : Nat → Int32} {i j : Nat} {x y : Int32} (h : i ≠ j) : upd (upd f i x) j y = upd (upd f j y) i x := by
  funext k
  simp only [upd]
  repeat' split
  all_goals (first | rfl | (exfalso; omega))
def aplay (a : Nat → Int32) (t : Nat) : Nat → Int32 := if qpr a t = 0 then upd (upd (upd (upd a (22 + 7 * t + 1) (qsa (a (22 + 7 * t + 1)) (a 2))) (22 + 7 * t + 6) (a (22 + 7 * t + 6) + 1)) 1 (a 1 - 5)) 5 (a 5 + 1) else b_ref a
theorem V_play (μ : Mm) (t : Nat) : V (w_play μ t) 0 = aplay (V μ 0) t := by
  unfold w_play aplay
  rw [c_c1, c_c6]
  by_cases h : qpr (V μ 0) t = 0
  · rw [if_pos h, if_pos h, V_u0_14, V_u0_10, V_ut_7, V_ut_2]; rfl
  · rw [if_neg h, if_neg h, V_ref]
theorem fr_play (μ : Mm) (t : Nat) {c : Nat} (h : 10 ≤ c) : w_play μ t c = μ c := by
  unfold w_play
  split
  · simp (disch := omega) only [z_up_n]
  · exact fr_ref _ h
theorem M_play (μ : Mm) (t : Nat) : v_play μ t 120 = aplay (μ 120) t := by
  unfold v_play aplay
  by_cases h : qpr (μ 120) t = 0
  · rw [if_pos h, if_pos h]
    simp (disch := omega) only [z_up_s, upd_n]
    rw [upd_comm (i := 5) (j := 22 + 7 * t + 6) (by omega), upd_comm (i := 5) (j := 22 + 7 * t + 1) (by omega), upd_comm (i := 22 + 7 * t + 6) (j := 22 + 7 * t + 1) (by omega), upd_comm (i := 5) (j := 1) (by omega)]
  · rw [if_neg h, if_neg h, M_ref]
theorem mf_play (μ : Mm) (t : Nat) {c : Nat} (h : c ≠ 120) : v_play μ t c = μ c := by
  unfold v_play
  split
  · simp (disch := omega) only [z_up_n]
  · exact mf_ref _ h
theorem hi_play (b : Nat → Int32) {t : Nat} (ht : t < 24) {j : Nat} (hj : 190 ≤ j) : aplay b t j = b j := by
  unfold aplay
  split
  · simp (disch := omega) only [upd_n]
  · exact hi_ref b hj
theorem Eqv.pr {a b : Nat → Int32} (h : Eqv a b) {t : Nat} (ht : t < 24) : qpr a t = qpr b t := by unfold qpr; rw [h.cut ht, h.st (show 1 < 22 by decide)]
theorem Eqv.play {a b : Nat → Int32} (h : Eqv a b) {t : Nat} (ht : t < 24) : qplay a t = qplay b t := by
  unfold qplay; rw [h.pr ht, h.tr ht 1 (by decide) (by decide), h.st (show 2 < 22 by decide)]
def ash (a : Nat → Int32) (c : Nat) (d : Int32) : Nat → Int32 := upd (upd (upd a (10 + 2 * c) (a (10 + 2 * c) - d)) 6 (a 6 + d)) (10 + 2 * c + 1) (a (10 + 2 * c + 1) + 1)
def ashave (a : Nat → Int32) (c : Nat) : Nat → Int32 := if qdeep a c = 0 then b_ref a else b_sm (ash a c (qdeep a c)) c
def dshave (a : Nat → Int32) (c : Nat) : Nat → Int32 := if qdeep a c = 0 then b_ref a else d_sm (ash a c (qdeep a c)) c
theorem V_shave (μ : Mm) {c : Nat} (hc : c < 6) : V (w_shave μ c) 0 = ashave (V μ 0) c := by
  unfold w_shave ashave
  by_cases h : qdeep (V μ 0) c = 0
  · rw [if_pos h, if_pos h, V_ref]
  · rw [if_neg h, if_neg h, V_sm, V_u9 _ _ hc, V_u0_15, V_u8 _ _ hc]
    unfold ash
    rw [V_ly μ 0 c hc, V_sh μ 0 c hc]; rfl
theorem fr_shave (μ : Mm) (k : Nat) {c : Nat} (h : 10 ≤ c) : w_shave μ k c = μ c := by
  unfold w_shave
  split
  · exact fr_ref _ h
  · rw [fr_sm _ _ h]; simp (disch := omega) only [z_up_n]
theorem M_sm (μ : Mm) (c : Nat) : v_sm μ c 120 = d_sm (μ 120) c := by
  unfold v_sm d_sm; simp only [lp, z_up_s]
theorem mf_sm (μ : Mm) (k : Nat) {c : Nat} (h : c ≠ 120) : v_sm μ k c = μ c := by
  unfold v_sm; simp (disch := omega) only [lp, z_up_n]
theorem hi_sm (b : Nat → Int32) {c : Nat} (hc : c < 6) {j : Nat} (hj : 190 ≤ j) : d_sm b c j = b j := by
  unfold d_sm; simp (disch := omega) only [lp, upd_n]
theorem M_shave (μ : Mm) {c : Nat} (hc : c < 6) : v_shave μ c 120 = dshave (μ 120) c := by
  unfold v_shave dshave ash
  by_cases h : qdeep (μ 120) c = 0
  · rw [if_pos h, if_pos h, M_ref]
  · rw [if_neg h, if_neg h, M_sm]
    simp (disch := omega) only [z_up_s, upd_n]
    rw [upd_comm (i := 10 + 2 * c + 1) (j := 6) (by omega)]
theorem mf_shave (μ : Mm) (k : Nat) {c : Nat} (h : c ≠ 120) : v_shave μ k c = μ c := by
  unfold v_shave
  split
  · exact mf_ref _ h
  · rw [mf_sm _ _ h]; simp (disch := omega) only [z_up_n]
theorem hi_shave (b : Nat → Int32) {c : Nat} (hc : c < 6) {j : Nat} (hj : 190 ≤ j) : dshave b c j = b j := by
  unfold dshave
  split
  · exact hi_ref b hj
  · rw [hi_sm _ hc hj]; unfold ash; simp (disch := omega) only [upd_n]
def arn (a : Nat → Int32) (c : Nat) (x : Int32) : Nat → Int32 := upd (upd (upd (upd a (10 + 2 * c) x) 8 (a 8 + a (10 + 2 * c))) 7 (a 7 + x)) (10 + 2 * c + 1) 0
theorem V_renew (μ : Mm) {c : Nat} (hc : c < 6) (x : Int32) : V (w_renew μ c x) 0 = b_sm (arn (V μ 0) c x) c := by
  unfold w_renew arn
  rw [V_sm, V_u9 _ _ hc, V_u0_16, V_u0_17, V_u8 _ _ hc, V_ly μ 0 c hc]; rfl
theorem fr_renew (μ : Mm) (k : Nat) (x : Int32) {c : Nat} (h : 10 ≤ c) : w_renew μ k x c = μ c := by
  unfold w_renew; rw [fr_sm _ _ h]; simp (disch := omega) only [z_up_n]
theorem M_renew (μ : Mm) {c : Nat} (hc : c < 6) (x : Int32) : v_renew μ c x 120 = d_sm (arn (μ 120) c x) c := by
  unfold v_renew arn
  rw [M_sm]
  simp (disch := omega) only [z_up_s, upd_n]
  rw [upd_comm (i := 10 + 2 * c + 1) (j := 7) (by omega), upd_comm (i := 10 + 2 * c + 1) (j := 8) (by omega), upd_comm (i := 7) (j := 8) (by omega)]
theorem mf_renew (μ : Mm) (k : Nat) (x : Int32) {c : Nat} (h : c ≠ 120) : v_renew μ k x c = μ c := by
  unfold v_renew; rw [mf_sm _ _ h]; simp (disch := omega) only [z_up_n]
theorem hi_renew (b : Nat → Int32) {c : Nat} (hc : c < 6) (x : Int32) {j : Nat} (hj : 190 ≤ j) : d_sm (arn b c x) c j = b j := by
  rw [hi_sm _ hc hj]; unfold arn; simp (disch := omega) only [upd_n]
theorem Eqv.shave {a b : Nat → Int32} (h : Eqv a b) {c : Nat} (hc : c < 6) : qshave a c = qshave b c := by unfold qshave; rw [h.deep hc]
