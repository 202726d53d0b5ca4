/-! p30, PURE: all hangs together -/
theorem hg_b134 {n0 : Nat} {ag : Int32 → Int32 → Int32 → Int32 → Int32 → Int32 → Mm → Option (Int32 × Mm)} {x1 x2 x3 x4 x6 : Int32} {t : Nat} (ht : t < 24) {μ : Mm} (hI : Iv n0 (V μ 0)) : ∀ (m k n a : Nat), k + m = 24 → m < n → a + cntB (ownB (V μ 0) t) m k = cntB (ownB (V μ 0) t) 24 0 →
    f_L_hangs_b134 ag n x1 x2 x3 x4 x6 (nI t) (nI a) (nI k) μ = ag x1 x2 x3 x4 x6 (nI (t + 1)) μ := by
  intro m
  induction m with
  | zero =>
    intro k n a hk hn ha
    obtain ⟨n, rfl⟩ : ∃ q, n = q + 1 := ⟨n - 1, by omega⟩
    have ha : a = cntB (ownB (V μ 0) t) 24 0 := ha
    have hd := l_dau hI.nrm ht (μ := μ)
    rw [qdau_n] at hd
    have h1 := own_le (st := V μ 0) ht
    have h2 := dau_23 (st := V μ 0) ht
    have h201 : f_L_hangs_b201 ag x1 x2 x3 x4 x6 (nI t) μ = ag x1 x2 x3 x4 x6 (nI (t + 1)) μ := by
      unfold f_L_hangs_b201
      rw [hd, zb_of rfl, if_pos (show nI (cntB (dauB (V μ 0) t) 24 0) ≤ 23 from ple (b := 23) h2 (by decide)), pa1]
    rw [f_L_hangs_b134, if_pos (show (24 : Int32) ≤ nI k from ple (a := 24) (by omega) (by omega)), hd, zb_of rfl, if_neg (nI_nlt (by omega) (by omega))]
    by_cases h0 : nI a = 0
    · rw [if_pos h0, hd, zb_of rfl]
      have ha0 : a = 0 := (pinj (b := 0) (by omega) (by decide)).mp h0
      rw [if_pos (by rw [own_z hI ht (by omega)]; rfl)]
      exact h201
    · rw [if_neg h0]; exact h201
  | succ m ih =>
    intro k n a hk hn ha
    obtain ⟨n, rfl⟩ : ∃ q, n = q + 1 := ⟨n - 1, by omega⟩
    have ha : a + ((if ownB (V μ 0) t k then 1 else 0) + cntB (ownB (V μ 0) t) m (k + 1)) = cntB (ownB (V μ 0) t) 24 0 := ha
    rw [f_L_hangs_b134, if_neg (show ¬ (24 : Int32) ≤ nI k from pge (b := 24) (by omega) (by omega)), Int32.add_zero]
    by_cases hkt : k = t
    · rw [if_pos (by rw [hkt]), pa1]
      rw [if_neg (fun q => (ownB_t.mp q).1 hkt), Nat.zero_add] at ha
      exact ih (k + 1) n a (by omega) (by omega) ha
    · rw [if_neg (nI_ne hkt (by omega) (by omega)), show f_L_trackOf (nI k) 4 μ = some (qtp (V μ 0) k 4, μ) from l_tp (by omega) (by decide), zb_of rfl]
      have eq4 : qtp (V μ 0) k 4 = qmo (V μ 0) k := rfl
      rw [eq4]
      by_cases hq : qmo (V μ 0) k = nI t
      · rw [if_pos hq, pa1, pa1]
        rw [if_pos (ownB_t.mpr ⟨hkt, hq⟩)] at ha
        exact ih (k + 1) n (a + 1) (by omega) (by omega) (by omega)
      · rw [if_neg hq, pa1]
        rw [if_neg (fun q => hq (ownB_t.mp q).2), Nat.zero_add] at ha
        exact ih (k + 1) n a (by omega) (by omega) ha
def f1 (st : Nat → Int32) (t : Nat) (a : Int32) : Int32 := if qcut st t = 0 then a + 0 else a + 1
def f3 (st : Nat → Int32) (t : Nat) (a : Int32) : Int32 := a + st (22 + 7 * t)
def f4 (st : Nat → Int32) (t : Nat) (a : Int32) : Int32 := if qcut st t = 0 then a + 0 else a + st (22 + 7 * t + 1)
theorem hg_b94 {n0 : Nat} {ag : Int32 → Int32 → Int32 → Int32 → Int32 → Int32 → Mm → Option (Int32 × Mm)} {x1 x2 x3 x6 y0 y1 : Int32} {t : Nat} (ht : t < 24) {μ : Mm} (hI : Iv n0 (V μ 0)) (b : Bool) (hb : cutB (V μ 0) t = b) :
    f_L_hangs_b94 ag x1 x2 x3 x6 (nI t) (if b then 1 else 0) y0 y1 μ = ag x1 x2 x3 (y1 + y0) (f6 (V μ 0) t x6) (nI (t + 1)) μ := by
  have h134 : ∀ x : Int32, f_L_hangs_b134 ag z_F x1 x2 x3 (y1 + y0) x (nI t) 0 0 μ = ag x1 x2 x3 (y1 + y0) x (nI (t + 1)) μ := fun x => hg_b134 ht hI 24 0 z_F 0 rfl (by decide) (Nat.zero_add _)
  have e1 : f_L_trackOf (nI t) 1 μ = some (qtp (V μ 0) t 1, μ) := l_tp ht (by decide)
  unfold f_L_hangs_b94 f6
  cases b with
  | false =>
    have hc : qcut (V μ 0) t = 0 := Classical.byContradiction fun q => by rw [cutB_t.mpr q] at hb; cases hb
    rw [if_pos (by decide), if_pos hc, h134]
  | true =>
    have hc := cutB_t.mp hb
    rw [if_neg (by decide), if_neg hc, e1, zb_of rfl, qtp_c hc]
    by_cases hle : V μ 0 (22 + 7 * t + 1) ≤ x6
    · rw [if_pos hle, if_pos hle, h134]
    · rw [if_neg hle, if_neg hle, e1, zb_of rfl, qtp_c hc, h134]
theorem hg_b64 {n0 : Nat} {ag : Int32 → Int32 → Int32 → Int32 → Int32 → Int32 → Mm → Option (Int32 × Mm)} {x1 x2 x3 x4 x6 : Int32} {t : Nat} (ht : t < 24) {μ : Mm} (hI : Iv n0 (V μ 0)) (b : Bool) (hb : cutB (V μ 0) t = b) :
    f_L_hangs_b64 ag x2 x3 x4 x6 (nI t) (if b then 1 else 0) (if b then 1 else 0) x1 μ = ag (f1 (V μ 0) t x1) x2 (f3 (V μ 0) t x3) (f4 (V μ 0) t x4) (f6 (V μ 0) t x6) (nI (t + 1)) μ := by
  have e0 : f_L_trackOf (nI t) 0 μ = some (qtp (V μ 0) t 0, μ) := l_tp ht (by decide)
  have e1 : f_L_trackOf (nI t) 1 μ = some (qtp (V μ 0) t 1, μ) := l_tp ht (by decide)
  have h94 := fun (x1 x3 y0 y1 : Int32) => hg_b94 (ag := ag) (x1 := x1) (x2 := x2) (x3 := x3) (x6 := x6) (y0 := y0) (y1 := y1) ht hI b hb
  unfold f_L_hangs_b64 f1 f3 f4
  rw [e0, zb_of rfl, qtp_0]
  cases b with
  | false =>
    have hc : qcut (V μ 0) t = 0 := Classical.byContradiction fun q => by rw [cutB_t.mpr q] at hb; cases hb
    rw [if_pos hc, if_pos hc]
    exact (if_pos rfl).trans (h94 _ _ _ _)
  | true =>
    have hc := cutB_t.mp hb
    rw [if_neg hc, if_neg hc]
    refine (if_neg (by decide)).trans ?_
    rw [e1, zb_of rfl, qtp_c hc]
    exact h94 _ _ _ _
theorem hg_b18 {n0 : Nat} (hn0 : n0 < 1000) {x2 : Int32} : ∀ (m k n : Nat) (x1 x3 x4 x6 : Int32) (μ : Mm), k + m = 24 → m < n → JB μ → Iv n0 (V μ 0) →
    ∃ ν : Mm, f_L_hangs_b18 n x1 x2 x3 x4 x6 (nI k) μ = f_L_hangs_b223 z_F (lp (f1 (V μ 0)) m k x1) x2 (lp (f3 (V μ 0)) m k x3) (lp (f4 (V μ 0)) m k x4) (lp (f6 (V μ 0)) m k x6) 0 ν ∧ Sm μ ν := by
  intro m
  induction m with
  | zero =>
    intro k n x1 x3 x4 x6 μ hk hn hB hI
    obtain ⟨n, rfl⟩ : ∃ q, n = q + 1 := ⟨n - 1, by omega⟩
    refine ⟨μ, ?_, Sm.rf hB⟩
    rw [f_L_hangs_b18, if_pos (show (24 : Int32) ≤ nI k from ple (a := 24) (by omega) (by omega))]
    rfl
  | succ m ih =>
    intro k n x1 x3 x4 x6 μ hk hn hB hI
    obtain ⟨n, rfl⟩ : ∃ q, n = q + 1 := ⟨n - 1, by omega⟩
    have hk24 : k < 24 := by omega
    obtain ⟨ν, e, s⟩ := trk_ok hn0 hk24 hB hI
    have hIν : Iv n0 (V ν 0) := by rw [s.V]; exact hI
    obtain ⟨ρ, e2, s2⟩ := ih (k + 1) n (f1 (V ν 0) k x1) (f3 (V ν 0) k x3) (f4 (V ν 0) k x4) (f6 (V ν 0) k x6) ν (by omega) (by omega) s.2 hIν
    rw [s.V] at e2
    refine ⟨ρ, ?_, s.tr s2⟩
    show _ = f_L_hangs_b223 z_F (lp (f1 (V μ 0)) m (k + 1) (f1 (V μ 0) k x1)) x2 (lp (f3 (V μ 0)) m (k + 1) (f3 (V μ 0) k x3)) (lp (f4 (V μ 0)) m (k + 1) (f4 (V μ 0) k x4)) (lp (f6 (V μ 0)) m (k + 1) (f6 (V μ 0) k x6)) 0 ρ
    rw [← e2]
    rw [f_L_hangs_b18, if_neg (show ¬ (24 : Int32) ≤ nI k from pge (b := 24) (by omega) (by omega)), e, zb_of rfl, if_neg (by decide), show f_L_trackOf (nI k) 0 ν = some (qtp (V ν 0) k 0, ν) from l_tp hk24 (by decide), zb_of rfl, qtp_0]
    have hcut : cutB (V ν 0) k = true ↔ ¬ V ν 0 (22 + 7 * k) ≤ 0 := by
      rw [cutB_t, qcut_z, i_le, i_0]
    by_cases hle : V ν 0 (22 + 7 * k) ≤ 0
    · rw [if_pos hle]
      have := hg_b64 (ag := f_L_hangs_b18 n) (x1 := x1) (x2 := x2) (x3 := x3) (x4 := x4) (x6 := x6) hk24 hIν false (Bool.eq_false_iff.mpr (fun q => hcut.mp q hle))
      rw [s.V] at this
      exact this
    · rw [if_neg hle]
      have := hg_b64 (ag := f_L_hangs_b18 n) (x1 := x1) (x2 := x2) (x3 := x3) (x4 := x4) (x6 := x6) hk24 hIν true (hcut.mpr hle)
      rw [s.V] at this
      exact this
/-! the cylinders -/
theorem qcp_1 (a : Nat → Int32) (c : Nat) : qcp a c 1 = qcuton a c := by unfold qcp; rw [if_neg (by decide), if_pos rfl]
theorem qcp_2 (a : Nat → Int32) (c : Nat) : qcp a c 2 = qdeep a c := by unfold qcp; rw [if_neg (by decide), if_neg (by decide), if_pos rfl]
theorem qcp_3 (a : Nat → Int32) (c : Nat) : qcp a c 3 = qn (qcton a c) := by unfold qcp; rw [if_neg (by decide), if_neg (by decide), if_neg (by decide), if_pos rfl]
theorem hg_b396 {n0 : Nat} {ag : Int32 → Int32 → Int32 → Int32 → Int32 → Int32 → Mm → Option (Int32 × Mm)} {x1 x2 x3 x4 x6 : Int32} {c : Nat} (hc : c < 6) {μ : Mm} (hI : Iv n0 (V μ 0)) :
    f_L_hangs_b396 ag x1 x2 x3 x4 x6 (nI c) (qdeep (V μ 0) c) μ = ag x1 x2 x3 x4 x6 (nI (c + 1)) μ := by
  unfold f_L_hangs_b396
  rw [show f_L_cylinderOf (nI c) 0 μ = some (qcp (V μ 0) c 0, μ) from l_cp hc (by decide), zb_of rfl, qcp_0, if_pos (by rw [i_le]; exact (qdeep_b hI hc).2.1), pa1]
theorem hg_b369 {n0 : Nat} {ag : Int32 → Int32 → Int32 → Int32 → Int32 → Int32 → Mm → Option (Int32 × Mm)} {x1 x2 x3 x4 x6 : Int32} {c : Nat} (hc : c < 6) {μ : Mm} (hI : Iv n0 (V μ 0)) (y : Int32) :
    f_L_hangs_b369 ag x1 x2 x3 x4 x6 (nI c) (qdeep (V μ 0) c) (qn (qcton (V μ 0) c)) y y μ = ag x1 x2 x3 x4 x6 (nI (c + 1)) μ := by
  unfold f_L_hangs_b369
  rw [if_pos rfl]
  rcases cton_ok (V μ 0) c with ⟨h, _⟩ | ⟨i, hi, h, hci, _⟩
  · rw [h, qn0, if_pos (by decide), hg_b396 hc hI]
  · rw [h, qns, if_neg (show ¬ nI i < 0 from nI_nlt (b := 0) (by omega) (by omega)), pdiv4 (by omega), if_pos (by rw [hi]), show f_L_trackOf (nI i) 0 μ = some (qtp (V μ 0) i 0, μ) from l_tp (by omega) (by decide), zb_of rfl, qtp_0, if_neg (fun q => hci (by rw [qcut_z, q, i_0]; omega)), hg_b396 hc hI]
theorem hg_b242 {n0 : Nat} {ag : Int32 → Int32 → Int32 → Int32 → Int32 → Int32 → Mm → Option (Int32 × Mm)} {x1 x2 x3 x4 x6 : Int32} {c : Nat} (hc : c < 6) {μ : Mm} (hI : Iv n0 (V μ 0)) : ∀ (m k n a : Nat) (x : Int32), k + m = 4 * c + 4 → 4 * c ≤ k → m < n → a + cntB (cutB (V μ 0)) m k = cntB (cutB (V μ 0)) 4 (4 * c) → lp (fun t a => qmax a (V μ 0 (22 + 7 * t))) m k x = qdeep (V μ 0) c →
    f_L_hangs_b242 ag n x1 x2 x3 x4 x6 (nI c) (nI a) x (nI k) μ = ag x1 (x2 + V μ 0 (10 + 2 * c)) x3 x4 x6 (nI (c + 1)) μ := by
  intro m
  induction m with
  | zero =>
    intro k n a x hk hk4 hn ha hx
    obtain ⟨n, rfl⟩ : ∃ q, n = q + 1 := ⟨n - 1, by omega⟩
    have ha : a = cntB (cutB (V μ 0)) 4 (4 * c) := ha
    have hx : x = qdeep (V μ 0) c := hx
    have hbd := cnt_bd (cutB (V μ 0)) 4 (4 * c)
    rw [f_L_hangs_b242, p4m, show nI (4 * c) + 4 = nI (4 * c + 4) from pa4 _, if_pos (ple (by omega) (by omega)), show f_L_cylinderOf (nI c) 3 μ = some (qcp (V μ 0) c 3, μ) from l_cp hc (by decide), zb_of rfl, show f_L_cylinderOf (nI c) 0 μ = some (qcp (V μ 0) c 0, μ) from l_cp hc (by decide), zb_of rfl,
      show f_L_cylinderOf (nI c) 1 μ = some (qcp (V μ 0) c 1, μ) from l_cp hc (by decide), zb_of rfl, qcp_1, qcuton_n, if_pos (by rw [ha]), show f_L_cylinderOf (nI c) 2 μ = some (qcp (V μ 0) c 2, μ) from l_cp hc (by decide), zb_of rfl, qcp_2, if_pos hx.symm,
      qcp_3, qcp_0, hx, hg_b369 hc hI, hg_b369 hc hI]
    rcases cton_ok (V μ 0) c with ⟨h, h0⟩ | ⟨i, hi, h, hci, h0⟩
    · rw [if_pos (by rw [h]; rfl), if_pos (show nI a = 0 by rw [ha, h0]; rfl)]
    · have h1 : ¬ qn (qcton (V μ 0) c) = -1 := by rw [h, qns]; exact pneg (by omega)
      have h2 : ¬ nI a = 0 := nI_ne (b := 0) (by omega) (by omega) (by decide)
      rw [if_neg h1, if_neg h2]
  | succ m ih =>
    intro k n a x hk hk4 hn ha hx
    obtain ⟨n, rfl⟩ : ∃ q, n = q + 1 := ⟨n - 1, by omega⟩
    have ha : a + ((if cutB (V μ 0) k then 1 else 0) + cntB (cutB (V μ 0)) m (k + 1)) = cntB (cutB (V μ 0)) 4 (4 * c) := ha
    have hx : lp (fun t a => qmax a (V μ 0 (22 + 7 * t))) m (k + 1) (qmax x (V μ 0 (22 + 7 * k))) = qdeep (V μ 0) c := hx
    have hk24 : k < 24 := by omega
    have e0 : f_L_trackOf (nI k) 0 μ = some (qtp (V μ 0) k 0, μ) := l_tp hk24 (by decide)
    have h270 : ∀ (y : Nat), y + cntB (cutB (V μ 0)) m (k + 1) = cntB (cutB (V μ 0)) 4 (4 * c) → ∀ y0 : Int32, nI a + y0 = nI y → f_L_hangs_b270 ag (f_L_hangs_b242 ag n) x1 x2 x3 x4 x6 (nI c) x (nI k) y0 (nI a) μ = ag x1 (x2 + V μ 0 (10 + 2 * c)) x3 x4 x6 (nI (c + 1)) μ := fun y hy y0 hy0 => by
      have hi := ih (k + 1) n y (qmax x (V μ 0 (22 + 7 * k))) (by omega) (by omega) (by omega) hy hx
      unfold f_L_hangs_b270
      rw [e0, zb_of rfl, qtp_0, hy0, pa1]
      by_cases hle : V μ 0 (22 + 7 * k) ≤ x
      · have hm : qmax x (V μ 0 (22 + 7 * k)) = x := by unfold qmax; rw [if_neg (fun q => by rw [i_lt] at q; rw [i_le] at hle; omega)]
        rw [hm] at hi
        rw [if_pos hle]; exact hi
      · have hm : qmax x (V μ 0 (22 + 7 * k)) = V μ 0 (22 + 7 * k) := by unfold qmax; rw [if_pos (by rw [i_lt]; rw [i_le] at hle; omega)]
        rw [hm] at hi
        rw [if_neg hle, e0, zb_of rfl, qtp_0]; exact hi
    rw [f_L_hangs_b242, p4m, show nI (4 * c) + 4 = nI (4 * c + 4) from pa4 _, if_neg (pge (by omega) (by omega)), e0, zb_of rfl, qtp_0]
    have hcut : cutB (V μ 0) k = true ↔ ¬ V μ 0 (22 + 7 * k) ≤ 0 := by rw [cutB_t, qcut_z, i_le, i_0]
    by_cases hle : V μ 0 (22 + 7 * k) ≤ 0
    · rw [if_pos hle]
      rw [if_neg (fun q => hcut.mp q hle), Nat.zero_add] at ha
      exact h270 a ha 0 (Int32.add_zero _)
    · rw [if_neg hle]
      rw [if_pos (hcut.mpr hle)] at ha
      exact h270 (a + 1) (by omega) 1 (pa1 _)
theorem hg_b223 {n0 : Nat} {x1 x3 x4 x6 : Int32} {μ : Mm} (hI : Iv n0 (V μ 0)) : ∀ (m k n : Nat) (x2 : Int32), k + m = 6 → m < n →
    f_L_hangs_b223 n x1 x2 x3 x4 x6 (nI k) μ = f_L_hangs_b223 (n - m) x1 (lp (fun c a => a + V μ 0 (10 + 2 * c)) m k x2) x3 x4 x6 6 μ := by
  intro m
  induction m with
  | zero =>
    intro k n x2 hk hn
    rw [show k = 6 by omega]; rfl
  | succ m ih =>
    intro k n x2 hk hn
    obtain ⟨n, rfl⟩ : ∃ q, n = q + 1 := ⟨n - 1, by omega⟩
    have h := ih (k + 1) n (x2 + V μ 0 (10 + 2 * k)) (by omega) (by omega)
    have h2 := hg_b242 (ag := f_L_hangs_b223 n) (x1 := x1) (x2 := x2) (x3 := x3) (x4 := x4) (x6 := x6) (show k < 6 by omega) hI 4 (4 * k) z_F 0 0 rfl (Nat.le_refl _) (by decide) (Nat.zero_add _) rfl
    show _ = f_L_hangs_b223 (n + 1 - (m + 1)) x1 (lp (fun c a => a + V μ 0 (10 + 2 * c)) m (k + 1) (x2 + V μ 0 (10 + 2 * k))) x3 x4 x6 6 μ
    rw [Nat.add_sub_add_right, ← h]
    rw [f_L_hangs_b223, if_neg (show ¬ (6 : Int32) ≤ nI k from pge (b := 6) (by omega) (by omega)), p4m]
    exact h2
/-! the sums -/
theorem hg_b634 {n0 : Nat} {μ : Mm} (hI : Iv n0 (V μ 0)) : f_L_hangs_b634 (qcuts (V μ 0)) (qsum (V μ 0) 1) (qmean (V μ 0)) (qmean (V μ 0)) μ = some (1, μ) := by
  unfold f_L_hangs_b634
  rw [if_pos (okF_s (qmean_ok hI.bd)).2.2.1, c_share hI.bd, zb_of rfl]
  have hs := okD_s (qshare_ok hI.bd)
  unfold qshare at hs ⊢
  by_cases h : qcuts (V μ 0) = 0
  · rw [if_pos h] at hs
    rw [if_pos h, if_pos h, if_pos hs.2.1]
  · rw [if_neg h] at hs
    rw [if_neg h, if_neg h, if_pos hs.1, if_pos hs.2.1]
theorem hg_b602 {n0 : Nat} {μ : Mm} (hI : Iv n0 (V μ 0)) (y : Int32) : f_L_hangs_b602 (qcuts (V μ 0)) (qsum (V μ 0) 0) (qsum (V μ 0) 1) y y μ = some (1, μ) := by
  unfold f_L_hangs_b602
  have hb := hg_b634 hI
  have hm := okF_s (qmean_ok hI.bd)
  rw [if_pos rfl, c_mean hI.bd, zb_of rfl]
  by_cases h : qcuts (V μ 0) = 0
  · have e : qmean (V μ 0) = FP.fconst0 := by unfold qmean; rw [if_pos h]
    rw [if_pos h, ← e]; exact hb
  · have e : qmean (V μ 0) = FP.fdiv (FP.i2f (qsum (V μ 0) 0)) (FP.i2f (qcuts (V μ 0))) := by unfold qmean; rw [if_neg h]
    rw [if_neg h, ← e, if_pos hm.1]; exact hb
theorem hg_b525 {n0 : Nat} {μ : Mm} (hI : Iv n0 (V μ 0)) : f_L_hangs_b525 (qcuts (V μ 0)) (qsum (V μ 0) 0) (qsum (V μ 0) 1) μ = some (1, μ) := by
  unfold f_L_hangs_b525
  have e0 : f_L_count 0 μ = some (V μ 0 0, μ) := l_num (w := 0) (by decide)
  have e1 : f_L_count 1 μ = some (V μ 0 1, μ) := l_num (w := 1) (by decide)
  have e2 : f_L_count 2 μ = some (qfl (V μ 0), μ) := l_num (w := 2) (by decide)
  have h0 := hI.2.1
  have h1 := hI.2.2.1
  rw [e0, zb_of rfl, if_neg (fun q => by rw [i_lt, i_0] at q; omega), e0, zb_of rfl, if_neg (fun q => by rw [i_lt, i_100] at q; omega), e1, zb_of rfl, if_neg (fun q => by rw [i_lt, i_0] at q; omega), e1, zb_of rfl, if_neg (fun q => by rw [i_lt, i_100] at q; omega), e2, zb_of rfl, e1, zb_of rfl]
  by_cases h50 : 50 ≤ V μ 0 1
  · have e : qfl (V μ 0) = 0 := by unfold qfl; rw [if_neg (fun q => by rw [i_lt] at q; rw [i_le] at h50; omega)]
    rw [if_pos h50, e, hg_b602 hI]
  · have e : qfl (V μ 0) = (50 - V μ 0 1) / 5 := by unfold qfl; rw [if_pos (by rw [i_lt]; rw [i_le] at h50; omega)]
    rw [if_neg h50, e1, zb_of rfl, e, hg_b602 hI]
theorem hg_b505 {n0 : Nat} {μ : Mm} (hI : Iv n0 (V μ 0)) (y : Int32) : f_L_hangs_b505 (qcuts (V μ 0)) (qsum (V μ 0) 0) (qsum (V μ 0) 1) (lp (f6 (V μ 0)) 24 0 (-1)) (qn (qct (V μ 0))) y y μ = some (1, μ) := by
  unfold f_L_hangs_b505
  rw [if_pos rfl]
  rcases best_ok hI with ⟨h, _, _⟩ | ⟨i, hi, h, hci, hx, _⟩
  · rw [h, qn0, if_pos (by decide), hg_b525 hI]
  · rw [h, qns, if_neg (show ¬ nI i < 0 from nI_nlt (b := 0) (by omega) (by omega)), show f_L_trackOf (nI i) 1 μ = some (qtp (V μ 0) i 1, μ) from l_tp hi (by decide), zb_of rfl, qtp_c hci, if_pos hx.symm, hg_b525 hI]
theorem hangs_ok {n0 : Nat} (hn0 : n0 < 1000) {μ : Mm} (hB : JB μ) (hI : Iv n0 (V μ 0)) : ∃ ν : Mm, f_L_hangs μ = some (1, ν) ∧ Sm μ ν := by
  obtain ⟨ν, e, s⟩ := hg_b18 hn0 (x2 := 0) 24 0 z_F 0 0 0 (-1) μ rfl (by decide) hB hI
  refine ⟨ν, ?_, s⟩
  have hIν : Iv n0 (V ν 0) := by rw [s.V]; exact hI
  unfold f_L_hangs
  rw [show f_L_hangs_b18 z_F 0 0 0 0 (-1) 0 μ = _ from e, ← s.V]
  have d1 : lp (f1 (V ν 0)) 24 0 0 = qcuts (V ν 0) := rfl
  have d3 : lp (f3 (V ν 0)) 24 0 0 = qsum (V ν 0) 0 := dep_eq hIν.bd
  have d4 : lp (f4 (V ν 0)) 24 0 0 = qsum (V ν 0) 1 := rfl
  have d2 : lp (fun c a => a + V ν 0 (10 + 2 * c)) 6 0 0 = qlay (V ν 0) := rfl
  rw [d1, d3, d4, show f_L_hangs_b223 z_F (qcuts (V ν 0)) 0 (qsum (V ν 0) 0) (qsum (V ν 0) 1) (lp (f6 (V ν 0)) 24 0 (-1)) 0 ν = _ from hg_b223 hIν 6 0 z_F 0 rfl (by decide), d2, show z_F - 6 = 1193 + 1 from rfl, f_L_hangs_b223, if_pos (by decide), l_ct, zb_of rfl]
  have c3 : f_L_count 3 ν = some (qcuts (V ν 0), ν) := l_num (w := 3) (by decide)
  have c4 : f_L_count 4 ν = some (V ν 0 3, ν) := l_num (w := 4) (by decide)
  have c5 : f_L_count 5 ν = some (V ν 0 4, ν) := l_num (w := 5) (by decide)
  have c7 : f_L_count 7 ν = some (qlay (V ν 0), ν) := l_num (w := 7) (by decide)
  have c8 : f_L_count 8 ν = some (V ν 0 6, ν) := l_num (w := 8) (by decide)
  have c9 : f_L_count 9 ν = some (V ν 0 7, ν) := l_num (w := 9) (by decide)
  have c10 : f_L_count 10 ν = some (V ν 0 8, ν) := l_num (w := 10) (by decide)
  obtain ⟨k1, k2, k3, k4, k5, k6, k7⟩ := hIν.2.2.2.2.2
  have hl := qlay_n hIν
  have hl0 : 0 ≤ SL (V ν 0) ∧ SL (V ν 0) ≤ 600 := by
    have h0 := hIν.2.2.2.2.1 0 (by decide)
    have h1 := hIν.2.2.2.2.1 1 (by decide)
    have h2 := hIν.2.2.2.2.1 2 (by decide)
    have h3 := hIν.2.2.2.2.1 3 (by decide)
    have h4 := hIν.2.2.2.2.1 4 (by decide)
    have h5 := hIν.2.2.2.2.1 5 (by decide)
    have es : SL (V ν 0) = (V ν 0 (10 + 2 * 0)).toInt + (V ν 0 (10 + 2 * 1)).toInt + (V ν 0 (10 + 2 * 2)).toInt + (V ν 0 (10 + 2 * 3)).toInt + (V ν 0 (10 + 2 * 4)).toInt + (V ν 0 (10 + 2 * 5)).toInt := rfl
    omega
  have a1 := i_add (a := qlay (V ν 0)) (b := V ν 0 6) (by omega) (by omega)
  have a2 := i_add (a := qlay (V ν 0) + V ν 0 6) (b := V ν 0 8) (by omega) (by omega)
  have a3 := i_add (a := V ν 0 3) (b := V ν 0 4) (by omega) (by omega)
  have hnc : ncuts (V ν 0) ≤ 24 := cnt_bd _ 24 0
  have hq : (qcuts (V ν 0)).toInt = ncuts (V ν 0) := by rw [qcuts_n, nI_toInt (by omega)]
  rw [c3, zb_of rfl, if_pos rfl, c7, zb_of rfl, if_pos rfl, c7, zb_of rfl, c8, zb_of rfl, c10, zb_of rfl, c9, zb_of rfl, if_pos (by rw [i_eq]; omega), c4, zb_of rfl, c5, zb_of rfl, if_neg (fun q => by rw [i_lt] at q; omega), hg_b505 hIν, hg_b505 hIν]
  rcases best_ok hIν with ⟨h, _, h0⟩ | ⟨i, hi, h, hci, hx, h0⟩
  · rw [if_pos (by rw [h]; rfl), if_pos (by rw [qcuts_n, h0]; rfl)]
  · have h1 : ¬ qn (qct (V ν 0)) = -1 := by rw [h, qns]; exact pneg (by omega)
    have h2 : ¬ qcuts (V ν 0) = 0 := by rw [qcuts_n]; exact nI_ne (b := 0) (by omega) (by omega) (by decide)
    rw [if_neg h1, if_neg h2]
