/-! PURE: what the calls change -/
theorem upd_s (f : Nat → Int32) (k : Nat) (x : Int32) : upd f k x k = x := if_pos rfl
theorem upd_n {f : Nat → Int32} {k j : Nat} {x : Int32} (h : j ≠ k) : upd f k x j = f j := if_neg h
theorem V_u0 (μ : Mm) (i : Nat) (hi : i < 10) (v : Int32) : V (z_up μ 0 (9 + i) v) 0 = upd (V μ 0) i v := by
  funext j
  unfold V
  simp only [upd]
  by_cases h : j = i
  · rw [if_pos h, if_pos (by omega), z_up_s, h, upd_s]
  · rw [if_neg h]
    by_cases h1 : j < 10
    · rw [if_pos h1, if_pos h1, z_up_s, upd_n (by omega)]
    · rw [if_neg h1, if_neg h1]
      by_cases h2 : j < 22
      · rw [if_pos h2, if_pos h2]
        split <;> rw [z_up_n (h := by omega)]
      · rw [if_neg h2, if_neg h2, z_up_n (h := by omega)]
theorem V_ut (μ : Mm) (c t : Nat) (hc : c < 7) (v : Int32) : V (z_up μ (1 + c) t v) 0 = upd (V μ 0) (22 + 7 * t + c) v := by
  funext j
  unfold V
  simp only [upd]
  by_cases h : j = 22 + 7 * t + c
  · rw [if_pos h, if_neg (by omega), if_neg (by omega), show 0 + 1 + (j - 22) % 7 = 1 + c by omega, show (j - 22) / 7 = t by omega, z_up_s, upd_s]
  · rw [if_neg h]
    by_cases h1 : j < 10
    · rw [if_pos h1, if_pos h1, z_up_n (h := by omega)]
    · rw [if_neg h1, if_neg h1]
      by_cases h2 : j < 22
      · rw [if_pos h2, if_pos h2]
        split <;> rw [z_up_n (h := by omega)]
      · rw [if_neg h2, if_neg h2]
        by_cases h3 : (j - 22) % 7 = c
        · rw [show 0 + 1 + (j - 22) % 7 = 1 + c by omega, z_up_s, upd_n (by omega)]
        · rw [z_up_n (h := by omega)]
theorem V_u8 (μ : Mm) (c : Nat) (hc : c < 6) (v : Int32) : V (z_up μ 8 c v) 0 = upd (V μ 0) (10 + 2 * c) v := by
  funext j
  unfold V
  simp only [upd]
  by_cases h : j = 10 + 2 * c
  · rw [if_pos h, if_neg (by omega), if_pos (by omega), if_pos (by omega), show (j - 10) / 2 = c by omega, show 0 + 8 = 8 from rfl, z_up_s, upd_s]
  · rw [if_neg h]
    by_cases h1 : j < 10
    · rw [if_pos h1, if_pos h1, z_up_n (h := by omega)]
    · rw [if_neg h1, if_neg h1]
      by_cases h2 : j < 22
      · rw [if_pos h2, if_pos h2]
        by_cases h3 : j % 2 = 0
        · rw [if_pos h3, if_pos h3, show 0 + 8 = 8 from rfl, z_up_s, upd_n (by omega)]
        · rw [if_neg h3, if_neg h3, z_up_n (h := by omega)]
      · rw [if_neg h2, if_neg h2, z_up_n (h := by omega)]
theorem V_u9 (μ : Mm) (c : Nat) (hc : c < 6) (v : Int32) : V (z_up μ 9 c v) 0 = upd (V μ 0) (10 + 2 * c + 1) v := by
  funext j
  unfold V
  simp only [upd]
  by_cases h : j = 10 + 2 * c + 1
  · rw [if_pos h, if_neg (by omega), if_pos (by omega), if_neg (by omega), show (j - 10) / 2 = c by omega, show 0 + 9 = 9 from rfl, z_up_s, upd_s]
  · rw [if_neg h]
    by_cases h1 : j < 10
    · rw [if_pos h1, if_pos h1, z_up_n (h := by omega)]
    · rw [if_neg h1, if_neg h1]
      by_cases h2 : j < 22
      · rw [if_pos h2, if_pos h2]
        by_cases h3 : j % 2 = 0
        · rw [if_pos h3, if_pos h3, z_up_n (h := by omega)]
        · rw [if_neg h3, if_neg h3, show 0 + 9 = 9 from rfl, z_up_s, upd_n (by omega)]
      · rw [if_neg h2, if_neg h2, z_up_n (h := by omega)]
theorem V_u0_9 (μ : Mm) (v : Int32) : V (z_up μ 0 9 v) 0 = upd (V μ 0) 0 v := V_u0 μ 0 (by decide) v
theorem V_u0_10 (μ : Mm) (v : Int32) : V (z_up μ 0 10 v) 0 = upd (V μ 0) 1 v := V_u0 μ 1 (by decide) v
theorem V_u0_11 (μ : Mm) (v : Int32) : V (z_up μ 0 11 v) 0 = upd (V μ 0) 2 v := V_u0 μ 2 (by decide) v
theorem V_u0_12 (μ : Mm) (v : Int32) : V (z_up μ 0 12 v) 0 = upd (V μ 0) 3 v := V_u0 μ 3 (by decide) v
theorem V_u0_13 (μ : Mm) (v : Int32) : V (z_up μ 0 13 v) 0 = upd (V μ 0) 4 v := V_u0 μ 4 (by decide) v
theorem V_u0_14 (μ : Mm) (v : Int32) : V (z_up μ 0 14 v) 0 = upd (V μ 0) 5 v := V_u0 μ 5 (by decide) v
theorem V_u0_15 (μ : Mm) (v : Int32) : V (z_up μ 0 15 v) 0 = upd (V μ 0) 6 v := V_u0 μ 6 (by decide) v
theorem V_u0_16 (μ : Mm) (v : Int32) : V (z_up μ 0 16 v) 0 = upd (V μ 0) 7 v := V_u0 μ 7 (by decide) v
theorem V_u0_17 (μ : Mm) (v : Int32) : V (z_up μ 0 17 v) 0 = upd (V μ 0) 8 v := V_u0 μ 8 (by decide) v
theorem V_u0_18 (μ : Mm) (v : Int32) : V (z_up μ 0 18 v) 0 = upd (V μ 0) 9 v := V_u0 μ 9 (by decide) v
theorem V_ut_1 (μ : Mm) (t : Nat) (v : Int32) : V (z_up μ 1 t v) 0 = upd (V μ 0) (22 + 7 * t) v := V_ut μ 0 t (by decide) v
theorem V_ut_2 (μ : Mm) (t : Nat) (v : Int32) : V (z_up μ 2 t v) 0 = upd (V μ 0) (22 + 7 * t + 1) v := V_ut μ 1 t (by decide) v
theorem V_ut_3 (μ : Mm) (t : Nat) (v : Int32) : V (z_up μ 3 t v) 0 = upd (V μ 0) (22 + 7 * t + 2) v := V_ut μ 2 t (by decide) v
theorem V_ut_4 (μ : Mm) (t : Nat) (v : Int32) : V (z_up μ 4 t v) 0 = upd (V μ 0) (22 + 7 * t + 3) v := V_ut μ 3 t (by decide) v
theorem V_ut_5 (μ : Mm) (t : Nat) (v : Int32) : V (z_up μ 5 t v) 0 = upd (V μ 0) (22 + 7 * t + 4) v := V_ut μ 4 t (by decide) v
theorem V_ut_6 (μ : Mm) (t : Nat) (v : Int32) : V (z_up μ 6 t v) 0 = upd (V μ 0) (22 + 7 * t + 5) v := V_ut μ 5 t (by decide) v
theorem V_ut_7 (μ : Mm) (t : Nat) (v : Int32) : V (z_up μ 7 t v) 0 = upd (V μ 0) (22 + 7 * t + 6) v := V_ut μ 6 t (by decide) v
def fl0 (μ : Mm) : Int32 := if μ 0 10 < 50 then (50 - μ 0 10) / 5 else 0
theorem c_fl0 {μ : Mm} : f_X2_machineFlutter μ = some (fl0 μ, μ) := by
  unfold f_X2_machineFlutter fl0; split <;> rfl
theorem fl0_V {μ : Mm} : fl0 μ = qfl (V μ 0) := rfl
/-- what a cut leaves, in the class's order -/
def w_cut (μ : Mm) (t : Nat) (d c f g m by_ : Int32) (k : Nat) : Mm :=
  z_up (z_up (z_up (z_up (z_up (z_up (z_up (z_up (z_up (z_up μ 4 t g) 5 t m) 1 t d) 2 t c) 6 t c) 3 t f) 7 t 0) 0 9 (qsa (μ 0 9) d)) 0 10 (μ 0 10 - by_)) 0 k (μ 0 k + 1)
def b_cut (st : Nat → Int32) (t : Nat) (d c f g m by_ : Int32) (k : Nat) : Nat → Int32 :=
  upd (upd (upd (upd (upd (upd (upd (upd (upd (upd st (22 + 7 * t + 3) g) (22 + 7 * t + 4) m) (22 + 7 * t) d) (22 + 7 * t + 1) c) (22 + 7 * t + 5) c) (22 + 7 * t + 2) f) (22 + 7 * t + 6) 0) 0 (qsa (st 0) d)) 1 (st 1 - by_)) k (st k + 1)
def w_ref (μ : Mm) : Mm := z_up μ 0 18 (μ 0 18 + 1)
def b_ref (st : Nat → Int32) : Nat → Int32 := upd st 9 (st 9 + 1)
theorem V_ref (μ : Mm) : V (w_ref μ) 0 = b_ref (V μ 0) := by
  unfold w_ref b_ref; rw [V_u0_18]; rfl
theorem V_cut12 (μ : Mm) (t : Nat) (d c f g m by_ : Int32) : V (w_cut μ t d c f g m by_ 12) 0 = b_cut (V μ 0) t d c f g m by_ 3 := by
  unfold w_cut b_cut
  simp only [V_u0_9, V_u0_10, V_u0_12, V_ut_1, V_ut_2, V_ut_3, V_ut_4, V_ut_5, V_ut_6, V_ut_7]
  rfl
theorem V_cut13 (μ : Mm) (t : Nat) (d c f g m by_ : Int32) : V (w_cut μ t d c f g m by_ 13) 0 = b_cut (V μ 0) t d c f g m by_ 4 := by
  unfold w_cut b_cut
  simp only [V_u0_9, V_u0_10, V_u0_13, V_ut_1, V_ut_2, V_ut_3, V_ut_4, V_ut_5, V_ut_6, V_ut_7]
  rfl
theorem fr_ref (μ : Mm) {c : Nat} (h : 10 ≤ c) : w_ref μ c = μ c := z_up_n _ _ _ (by omega)
theorem fr_cut (μ : Mm) (t : Nat) (d x f g m by_ : Int32) (k : Nat) {c : Nat} (h : 10 ≤ c) : w_cut μ t d x f g m by_ k c = μ c := by
  unfold w_cut
  simp (disch := omega) only [z_up_n]
def w_speak (μ : Mm) (t : Nat) (l : Int32) : Mm := if qsr (V μ 0) t l = 0 then w_cut μ t l (40 + 5 * l - (100 - μ 0 9) / 4) (fl0 μ) 0 (-1) 10 12 else w_ref μ
theorem c_speak {μ : Mm} {t : Nat} (ht : t < 24) (l : Int32) : f_X2_speakOnto (nI t) l μ = some (qsr (V μ 0) t l, w_speak μ t l) := by
  unfold f_X2_speakOnto w_speak
  rw [c_sr ht]
  simp only [zb]
  by_cases h : qsr (V μ 0) t l = 0
  · rw [if_pos h, if_pos h, h]
    simp (disch := omega) only [f_X3_bluntness, f_X3_sharpnessAfter, f_X2_cut, c_fl0, fl0, zb, zm, pzix, pcl, if_true, z_up_s, z_up_n, upd_s, upd_n]
    rfl
  · rw [if_neg h, if_neg h]; rfl
def w_copy (μ : Mm) (f t : Nat) (l : Int32) : Mm := if qcr (V μ 0) f t l = 0 then w_cut μ t (qcd (μ 1 f) l) (qcl (V μ 0) f l) (if μ 3 f + fl0 μ < 20 then μ 3 f + fl0 μ else 20) (μ 4 f + 1) (nI f) 20 13 else w_ref μ
theorem c_copy {μ : Mm} {f t : Nat} (hf : f < 24) (ht : t < 24) (l : Int32) (hl : 1 ≤ l) : f_X2_copyOnto (nI f) (nI t) l μ = some (qcr (V μ 0) f t l, w_copy μ f t l) := by
  unfold f_X2_copyOnto w_copy
  rw [c_cr hf ht]
  simp only [zb]
  by_cases h : qcr (V μ 0) f t l = 0
  · rw [if_pos h, if_pos h, h]
    simp (disch := first | omega | assumption) only [f_X3_sharpnessAfter, c_cd, c_cc, f_X2_clearnessIfCopied, f_X2_cut, c_fl0, fl0, zb, zm, pzix, pcl, if_true, z_up_s, z_up_n, upd_s, upd_n]
    simp (disch := omega) only [w_cut, qcl, qfl, c_c1, V_st, fl0, qsa, Nat.reduceAdd]
    rfl
  · rw [if_neg h, if_neg h]; rfl
def qpr (st : Nat → Int32) (t : Nat) : Int32 := if qcut st t = 0 then 1 else if 5 ≤ st 1 then 0 else 2
def w_play (μ : Mm) (t : Nat) : Mm := if qpr (V μ 0) t = 0 then z_up (z_up (z_up (z_up μ 2 t (qsa (μ 2 t) (μ 0 11))) 7 t (μ 7 t + 1)) 0 10 (μ 0 10 - 5)) 0 14 (μ 0 14 + 1) else w_ref μ
def qplay (st : Nat → Int32) (t : Nat) : Int32 := if qpr st t = 0 then 10 + qsa (st (22 + 7 * t + 1)) (st 2) else qpr st t
theorem c_play {μ : Mm} {t : Nat} (ht : t < 24) : f_X2_playTrack (nI t) μ = some (qplay (V μ 0) t, w_play μ t) := by
  unfold f_X2_playTrack w_play qplay
  rw [c_cut ht]
  simp only [zb]
  have e1 : V μ 0 1 = μ 0 10 := rfl
  have e2 : V μ 0 2 = μ 0 11 := rfl
  by_cases h : qcut (V μ 0) t = 0
  · have e : qpr (V μ 0) t = 1 := by unfold qpr; rw [if_pos h]
    rw [if_pos h, e, if_neg (by decide), if_neg (by decide)]
    rfl
  · rw [if_neg h]
    by_cases h5 : 5 ≤ μ 0 10
    · have e : qpr (V μ 0) t = 0 := by unfold qpr; rw [if_neg h, e1, if_pos h5]
      rw [if_pos h5, e, if_pos rfl, if_pos rfl, c_c1, e2]
      simp (disch := omega) only [f_X2_playTrack_b25, zm, pzix, pcl, if_true, z_up_s, z_up_n, upd_s, upd_n]
      rfl
    · have e : qpr (V μ 0) t = 2 := by unfold qpr; rw [if_neg h, e1, if_neg h5]
      rw [if_neg h5, e, if_neg (by decide), if_neg (by decide)]
      rfl
def w_sm (μ : Mm) (c : Nat) : Mm := lp (fun t m => z_up (z_up m 1 t 0) 5 t (-1)) 4 (4 * c) μ
def b_sm (st : Nat → Int32) (c : Nat) : Nat → Int32 := lp (fun t s => upd (upd s (22 + 7 * t) 0) (22 + 7 * t + 4) (-1)) 4 (4 * c) st
theorem c_sm_l {c : Nat} (hc : c < 6) : ∀ (m k n : Nat) (μ : Mm), k + m = 4 * c + 4 → m < n → f_X2_smoothTracks_b6 n (nI (4 * c)) (nI k) μ = some ((), lp (fun t m => z_up (z_up m 1 t 0) 5 t (-1)) m k μ) := by
  intro m
  induction m with
  | zero =>
    intro k n a hk hn
    obtain ⟨n, rfl⟩ : ∃ q, n = q + 1 := ⟨n - 1, by omega⟩
    rw [f_X2_smoothTracks_b6, pa4, if_pos (ple (by omega) (by omega))]
    rfl
  | succ m ih =>
    intro k n a hk hn
    obtain ⟨n, rfl⟩ : ∃ q, n = q + 1 := ⟨n - 1, by omega⟩
    rw [f_X2_smoothTracks_b6, pa4, if_neg (pge (by omega) (by omega))]
    simp (disch := omega) only [pzix, pcl, if_true, pa1]
    exact ih (k + 1) n _ (by omega) (by omega)
theorem c_sm {μ : Mm} {c : Nat} (hc : c < 6) : f_X2_smoothTracks (nI c) μ = some ((), w_sm μ c) := by
  unfold f_X2_smoothTracks; rw [pm4]; exact c_sm_l hc 4 (4 * c) z_F μ (by omega) (by decide)
theorem V_sm (μ : Mm) (c : Nat) : V (w_sm μ c) 0 = b_sm (V μ 0) c := by
  unfold w_sm b_sm
  simp only [lp, V_ut_1, V_ut_5]
theorem fr_sm (μ : Mm) (k : Nat) {c : Nat} (h : 10 ≤ c) : w_sm μ k c = μ c := by
  unfold w_sm
  simp (disch := omega) only [lp, z_up_n]
def w_shave (μ : Mm) (c : Nat) : Mm := if qdeep (V μ 0) c = 0 then w_ref μ else w_sm (z_up (z_up (z_up μ 8 c (μ 8 c - qdeep (V μ 0) c)) 0 15 (μ 0 15 + qdeep (V μ 0) c)) 9 c (μ 9 c + 1)) c
def qshave (st : Nat → Int32) (c : Nat) : Int32 := if qdeep st c = 0 then -1 else qdeep st c
theorem c_shave {μ : Mm} {c : Nat} (hc : c < 6) : f_X2_shaveCylinder (nI c) μ = some (qshave (V μ 0) c, w_shave μ c) := by
  unfold f_X2_shaveCylinder w_shave qshave
  rw [c_deep hc]
  simp only [zb]
  by_cases h : qdeep (V μ 0) c = 0
  · rw [if_pos h, if_pos h, if_pos h]; rfl
  · rw [if_neg h, if_neg h, if_neg h]
    simp (disch := omega) only [c_sm, zb, zm, pzix, pcl, if_true, z_up_s, z_up_n, upd_s, upd_n]
def w_renew (μ : Mm) (c : Nat) (x : Int32) : Mm := w_sm (z_up (z_up (z_up (z_up μ 8 c x) 0 17 (μ 0 17 + μ 8 c)) 0 16 (μ 0 16 + x)) 9 c 0) c
theorem c_renew {μ : Mm} {c : Nat} (hc : c < 6) (x : Int32) : f_X2_renewCylinder (nI c) x μ = some (μ 8 c, w_renew μ c x) := by
  unfold f_X2_renewCylinder w_renew
  simp (disch := omega) only [c_sm, zb, zm, pzix, pcl, if_true, z_up_s, z_up_n, upd_s, upd_n]
/-! the reference's -/
def v_cut (μ : Mm) (t : Nat) (d c f g m by_ : Int32) : Mm :=
  z_up (z_up (z_up (z_up (z_up (z_up (z_up (z_up (z_up μ 120 (22 + 7 * t) d) 120 (22 + 7 * t + 1) c) 120 (22 + 7 * t + 2) f) 120 (22 + 7 * t + 3) g) 120 (22 + 7 * t + 4) m) 120 (22 + 7 * t + 5) c) 120 (22 + 7 * t + 6) 0) 120 0 (qsa (μ 120 0) d)) 120 1 (μ 120 1 - by_)
def v_ref (μ : Mm) : Mm := z_up μ 120 9 (μ 120 9 + 1)
def fl1 (μ : Mm) : Int32 := if μ 120 1 < 50 then (50 - μ 120 1) / 5 else 0
def v_speak (μ : Mm) (t : Nat) (l : Int32) : Mm := if qsr (μ 120) t l = 0 then v_cut (z_up μ 120 3 (μ 120 3 + 1)) t l (40 + 5 * l - (100 - μ 120 0) / 4) (fl1 μ) 0 (-1) 10 else v_ref μ
def v_copy (μ : Mm) (f t : Nat) (l : Int32) : Mm := if qcr (μ 120) f t l = 0 then v_cut (z_up μ 120 4 (μ 120 4 + 1)) t (qcd (μ 120 (22 + 7 * f)) l) (qcl (μ 120) f l) (if μ 120 (22 + 7 * f + 2) + fl1 μ < 20 then μ 120 (22 + 7 * f + 2) + fl1 μ else 20) (μ 120 (22 + 7 * f + 3) + 1) (nI f) 20 else v_ref μ
theorem min20 (x : Int32) {α : Type} (F : Int32 → α) : (if x ≤ 20 then F x else F 20) = F (if x < 20 then x else 20) := by
  by_cases h : x < 20
  · rw [if_pos h, if_pos (show x ≤ 20 by rw [i_le]; rw [i_lt] at h; omega)]
  · rw [if_neg h]
    by_cases h2 : x ≤ 20
    · rw [if_pos h2]
      have : x = 20 := by rw [i_eq]; rw [i_le] at h2; rw [i_lt] at h; omega
      rw [this]
    · rw [if_neg h2]
def v_play (μ : Mm) (t : Nat) : Mm := if qpr (μ 120) t = 0 then z_up (z_up (z_up (z_up μ 120 5 (μ 120 5 + 1)) 120 (22 + 7 * t + 6) (μ 120 (22 + 7 * t + 6) + 1)) 120 (22 + 7 * t + 1) (qsa (μ 120 (22 + 7 * t + 1)) (μ 120 2))) 120 1 (μ 120 1 - 5) else v_ref μ
def v_sm (μ : Mm) (c : Nat) : Mm := lp (fun t m => z_up m 120 (22 + 7 * t) 0) 4 (4 * c) μ
def v_shave (μ : Mm) (c : Nat) : Mm := if qdeep (μ 120) c = 0 then v_ref μ else v_sm (z_up (z_up (z_up μ 120 (10 + 2 * c) (μ 120 (10 + 2 * c) - qdeep (μ 120) c)) 120 (10 + 2 * c + 1) (μ 120 (10 + 2 * c + 1) + 1)) 120 6 (μ 120 6 + qdeep (μ 120) c)) c
def v_renew (μ : Mm) (c : Nat) (x : Int32) : Mm := v_sm (z_up (z_up (z_up (z_up μ 120 (10 + 2 * c) x) 120 (10 + 2 * c + 1) 0) 120 7 (μ 120 7 + x)) 120 8 (μ 120 8 + μ 120 (10 + 2 * c))) c
