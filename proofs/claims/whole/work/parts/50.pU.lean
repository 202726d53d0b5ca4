/-! PURE: first error; what orders do -/
theorem qfe_le {f : Nat → Int32} {n : Nat} (hf : ∀ j, n ≤ j → f j = 0) : ∀ (m p : Nat), p ≤ n → qfe f n m p ≤ n := by
  intro m
  induction m with
  | zero => intro p _; exact Nat.zero_le n
  | succ m ih =>
    intro p hp
    have h7 := ort_in hf hp
    unfold qfe
    by_cases h0 : n ≤ p
    · rw [if_pos h0]; exact Nat.le_refl n
    · rw [if_neg h0]
      by_cases hw : owh f p
      · rw [if_pos hw]
        rw [hw.2] at h7
        by_cases he : n ≤ p + oln f p
        · rw [if_pos he]; exact Nat.le_refl n
        · rw [if_neg he]
          by_cases hs : f (p + oln f p) = 59
          · rw [if_pos hs]; exact ih _ (by omega)
          · rw [if_neg hs]; exact h7
      · rw [if_neg hw]; exact h7
theorem qok_fe {f : Nat → Int32} {n : Nat} : ∀ (m p : Nat), qok f n m p = true → qfe f n m p = n := by
  intro m
  induction m with
  | zero => intro p h; exact absurd (show false = true from h) (by decide)
  | succ m ih =>
    intro p h
    unfold qok at h
    unfold qfe
    by_cases h0 : n ≤ p
    · rw [if_pos h0]
    · rw [if_neg h0] at h ⊢
      by_cases hw : owh f p
      · rw [if_pos hw] at h ⊢
        by_cases he : n ≤ p + oln f p
        · rw [if_pos he]
        · rw [if_neg he] at h ⊢
          by_cases hs : f (p + oln f p) = 59
          · rw [if_pos hs] at h ⊢; exact ih _ h
          · rw [if_neg hs] at h; exact absurd h (by decide)
      · rw [if_neg hw] at h; exact absurd h (by decide)
def jf (μ : Mm) (n : Nat) : Nat → Int32 := fun j => if j < n then μ 95 j else 0
theorem JT.tx {μ : Mm} {n : Nat} (h : JT μ n) : TX μ (jf μ n) n := ⟨h.2.1, h.1, fun j hj => (if_pos hj).symm, fun j hj => if_neg (by omega)⟩
theorem L_firstError {μ : Mm} (hJ : J μ) : Good1 f_X3_firstError f_X4_firstError μ := by
  obtain ⟨n, hT⟩ := hJ.2.2.2.1
  have hX := hT.tx
  have hP : PS (z_up (z_up μ 119 5 0) 119 6 0) (jf μ n) n 0 := ⟨by rw [z_up_s, upd_s]; rfl, by rw [z_up_s, upd_n (by decide), z_up_s, upd_n (by decide)]; exact hT.2.2.1, hT.1, Nat.zero_le n, fun j hj => by rw [z_up_n _ _ _ (by decide), z_up_n _ _ _ (by decide), ← (hT.2.2.2 j hj).1]; exact (if_pos hj).symm, hX.2.2.2⟩
  obtain ⟨ν, q, e, ho⟩ := m_err 61 0 z_F _ hP (by have := hT.1; omega) (by decide)
  have hJν : J ν := hJ.scr (fun c c1 c2 c3 c4 c5 => by rw [ho.1 c c1, z_up_n _ _ _ c1, z_up_n _ _ _ c1]) (by rw [ho.2.1 1 (by decide) (by decide) (by decide) (by decide), z_up_s, upd_n (by decide), z_up_s, upd_n (by decide)]) (by rw [ho.2.1 4 (by decide) (by decide) (by decide) (by decide), z_up_s, upd_n (by decide), z_up_s, upd_n (by decide)])
  have hν4 : ν 119 4 = nI n := by rw [ho.2.1 4 (by decide) (by decide) (by decide) (by decide), z_up_s, upd_n (by decide), z_up_s, upd_n (by decide)]; exact hT.2.2.1
  refine ⟨nI (qfe (jf μ n) n 61 0), μ, ν, ?_, ?_, hJν⟩
  · unfold f_X3_firstError f_X0_firstWrong
    rw [show f_X0_firstWrong_b2 z_F 0 μ = _ from c_fw hX 61 0 z_F (by have := hT.1; omega) (Nat.zero_le n) (by decide), zb_of rfl]
  · unfold f_X4_firstError f_X4_error
    rw [e, zb_of rfl]
    by_cases hk : qok (jf μ n) n 61 0 = true
    · rw [if_pos hk, if_pos rfl, hν4, qok_fe 61 0 hk]
    · have := qfe_le hX.2.2.2 61 0 (Nat.zero_le n)
      rw [if_neg hk, if_neg (pneg (by have := hT.1; omega))]
/-! an order's work -/
def oA (f : Nat → Int32) (p : Nat) (a : Nat → Int32) : Nat → Int32 := if f p = 99 then acopy a (otk f (p + 1)) (otk f (p + 4)) (f (p + 7) - 48) else if f p = 112 then aplay a (otk f (p + 1)) else if f p = 115 then aspeak a (otk f (p + 1)) (f (p + 4) - 48) else if f p = 120 then ashave a (ocl f (p + 1)) else upd a 1 100
def oD (f : Nat → Int32) (p : Nat) (b : Nat → Int32) : Nat → Int32 := if f p = 99 then dcopy b (otk f (p + 1)) (otk f (p + 4)) (f (p + 7) - 48) else if f p = 112 then aplay b (otk f (p + 1)) else if f p = 115 then dspeak b (otk f (p + 1)) (f (p + 4) - 48) else if f p = 120 then dshave b (ocl f (p + 1)) else upd b 1 100
def oF (f : Nat → Int32) (p : Nat) (a : Nat → Int32) : Int32 := if f p = 99 then (if qcr a (otk f (p + 1)) (otk f (p + 4)) (f (p + 7) - 48) = 0 then 1 else 0) else if f p = 112 then (if qplay a (otk f (p + 1)) < 10 then 0 else 1) else if f p = 115 then (if qsr a (otk f (p + 1)) (f (p + 4) - 48) = 0 then 1 else 0) else if f p = 120 then (if qshave a (ocl f (p + 1)) = -1 then 0 else 1) else 1
theorem oh {f : Nat → Int32} {p k : Nat} (h : owh f p) (hk : fk (f p) = k) : ∀ i, i < (fbs k).length → fok ((fbs k).getD i 0) (f (p + i)) := by
  have h2 := h.2
  unfold ort oln at h2
  rw [hk] at h2
  exact qr_full f _ p h2
theorem sub48 {x : Int32} {N : Nat} (hN : N < 1000) (h1 : (49 : Int32) ≤ x) (h2 : x.toInt ≤ 48 + (N : Int)) : 1 ≤ x - 48 ∧ (x - 48).toInt ≤ (N : Int) := by
  rw [i_le, show (49 : Int32).toInt = 49 by decide] at h1
  have e := i_sub (a := x) (b := 48) (by rw [show (48 : Int32).toInt = 48 by decide]; omega) (by rw [show (48 : Int32).toInt = 48 by decide]; omega)
  rw [show (48 : Int32).toInt = 48 by decide] at e
  exact ⟨by rw [i_le, i_1]; omega, by omega⟩
theorem oh99 {f : Nat → Int32} {p : Nat} (h : owh f p) (hc : f p = 99) : (fok 65 (f (p + 1)) ∧ fok 68 (f (p + 2))) ∧ (fok 65 (f (p + 4)) ∧ fok 68 (f (p + 5))) ∧ otk f (p + 1) < 24 ∧ otk f (p + 4) < 24 ∧ 1 ≤ f (p + 7) - 48 := by
  have H := oh h (show fk (f p) = 1 by rw [hc]; rfl)
  have h1 : fok 65 (f (p + 1)) := H 1 (by decide)
  have h2 : fok 68 (f (p + 2)) := H 2 (by decide)
  have h4 : fok 65 (f (p + 4)) := H 4 (by decide)
  have h5 : fok 68 (f (p + 5)) := H 5 (by decide)
  have h7 : fok 86 (f (p + 7)) := H 7 (by decide)
  have a1 : (49 : Int32) ≤ f (p + 7) := h7.1
  have a2 : f (p + 7) ≤ (51 : Int32) := h7.2
  rw [i_le, show (51 : Int32).toInt = 51 by decide] at a2
  exact ⟨⟨h1, h2⟩, ⟨h4, h5⟩, otk_b h1 h2, otk_b h4 h5, (sub48 (N := 3) (by decide) a1 (by omega)).1⟩
theorem oh112 {f : Nat → Int32} {p : Nat} (h : owh f p) (hc : f p = 112) : (fok 65 (f (p + 1)) ∧ fok 68 (f (p + 2))) ∧ otk f (p + 1) < 24 := by
  have H := oh h (show fk (f p) = 2 by rw [hc]; rfl)
  have h1 : fok 65 (f (p + 1)) := H 1 (by decide)
  have h2 : fok 68 (f (p + 2)) := H 2 (by decide)
  exact ⟨⟨h1, h2⟩, otk_b h1 h2⟩
theorem oh115 {f : Nat → Int32} {p : Nat} (h : owh f p) (hc : f p = 115) : (fok 65 (f (p + 1)) ∧ fok 68 (f (p + 2))) ∧ otk f (p + 1) < 24 ∧ 1 ≤ f (p + 4) - 48 ∧ f (p + 4) - 48 ≤ 9 := by
  have H := oh h (show fk (f p) = 0 by rw [hc]; rfl)
  have h1 : fok 65 (f (p + 1)) := H 1 (by decide)
  have h2 : fok 68 (f (p + 2)) := H 2 (by decide)
  have h4 : fok 78 (f (p + 4)) := H 4 (by decide)
  have a1 : (49 : Int32) ≤ f (p + 4) := h4.1
  have a2 : f (p + 4) ≤ (57 : Int32) := h4.2
  rw [i_le, show (57 : Int32).toInt = 57 by decide] at a2
  have := sub48 (N := 9) (by decide) a1 (by omega)
  exact ⟨⟨h1, h2⟩, otk_b h1 h2, this.1, by rw [i_le, i_9]; omega⟩
theorem oh120 {f : Nat → Int32} {p : Nat} (h : owh f p) (hc : f p = 120) : fok 65 (f (p + 1)) ∧ ocl f (p + 1) < 6 := by
  have H := oh h (show fk (f p) = 3 by rw [hc]; rfl)
  have h1 : fok 65 (f (p + 1)) := H 1 (by decide)
  exact ⟨h1, (ocl_b h1).1⟩
theorem oh119 {f : Nat → Int32} {p : Nat} (h : owh f p) (h1 : ¬ f p = 99) (h2 : ¬ f p = 112) (h3 : ¬ f p = 115) (h4 : ¬ f p = 120) : f p = 119 := Classical.byContradiction fun h5 => by
  have h0 := h.1
  unfold oln fk at h0
  rw [if_neg h1, if_neg h2, if_neg h3, if_neg h5, if_neg h4] at h0
  exact absurd h0 (by decide)
theorem oRel {f : Nat → Int32} {p : Nat} {a b : Nat → Int32} (h : owh f p) (hR : Rel a b) : Rel (oA f p a) (oD f p b) := by
  unfold oA oD
  by_cases h1 : f p = 99
  · rw [if_pos h1, if_pos h1]
    have q := oh99 h h1
    exact hR.copy q.2.2.1 q.2.2.2.1 q.2.2.2.2
  · rw [if_neg h1, if_neg h1]
    by_cases h2 : f p = 112
    · rw [if_pos h2, if_pos h2]
      exact hR.play (oh112 h h2).2
    · rw [if_neg h2, if_neg h2]
      by_cases h3 : f p = 115
      · rw [if_pos h3, if_pos h3]
        have q := oh115 h h3
        exact hR.speak q.2.1 q.2.2.1 q.2.2.2
      · rw [if_neg h3, if_neg h3]
        by_cases h4 : f p = 120
        · rw [if_pos h4, if_pos h4]
          exact hR.shave (oh120 h h4).2
        · rw [if_neg h4, if_neg h4]
          exact hR.set (by decide) (fun q => by decide) (fun q => by omega)
theorem oFeq {f : Nat → Int32} {p : Nat} {a b : Nat → Int32} (h : owh f p) (hR : Rel a b) : oF f p a = oF f p b := by
  unfold oF
  by_cases h1 : f p = 99
  · have q := oh99 h h1
    rw [if_pos h1, if_pos h1, hR.1.cr q.2.2.1 q.2.2.2.1]
  · rw [if_neg h1, if_neg h1]
    by_cases h2 : f p = 112
    · rw [if_pos h2, if_pos h2, hR.1.play (oh112 h h2).2]
    · rw [if_neg h2, if_neg h2]
      by_cases h3 : f p = 115
      · rw [if_pos h3, if_pos h3, hR.1.sr (oh115 h h3).2.1]
      · rw [if_neg h3, if_neg h3]
        by_cases h4 : f p = 120
        · rw [if_pos h4, if_pos h4, hR.1.shave (oh120 h h4).2]
        · rw [if_neg h4, if_neg h4]
theorem oDhi {f : Nat → Int32} {p : Nat} (h : owh f p) (b : Nat → Int32) {j : Nat} (hj : 190 ≤ j) : oD f p b j = b j := by
  unfold oD
  by_cases h1 : f p = 99
  · rw [if_pos h1]; exact hi_copy b _ (oh99 h h1).2.2.2.1 _ hj
  · rw [if_neg h1]
    by_cases h2 : f p = 112
    · rw [if_pos h2]; exact hi_play b (oh112 h h2).2 hj
    · rw [if_neg h2]
      by_cases h3 : f p = 115
      · rw [if_pos h3]; exact hi_speak b (oh115 h h3).2.1 _ hj
      · rw [if_neg h3]
        by_cases h4 : f p = 120
        · rw [if_pos h4]; exact hi_shave b (oh120 h h4).2 hj
        · rw [if_neg h4]; exact upd_n (by omega)
theorem c_dig {μ : Mm} {f : Nat → Int32} {n p : Nat} (hT : TX μ f n) (hp : p < 2 ^ 31) : f_X0_digitAt (nI p) μ = some (f p - 48, μ) := by
  unfold f_X0_digitAt; rw [c_code hT hp, zb_of rfl]
theorem c_cyl {μ : Mm} {f : Nat → Int32} {n p : Nat} (hT : TX μ f n) (hp : p < 2 ^ 31) : f_X0_cylinderAt (nI p) μ = some (f p - 97, μ) := by
  unfold f_X0_cylinderAt; rw [c_code hT hp, zb_of rfl]
theorem c_tka {μ : Mm} {f : Nat → Int32} {n p : Nat} (hT : TX μ f n) (hp : p < 1000) (h : fok 65 (f p)) (h2 : fok 68 (f (p + 1))) : f_X0_trackAt (nI p) μ = some (nI (otk f p), μ) := by
  unfold f_X0_trackAt
  rw [c_cyl hT (by omega), zb_of rfl, pa1, c_dig hT (by omega), zb_of rfl, (ocl_b h).2, (odg_b h2).2, pm4, padd]
  rfl
theorem c_do {W : Mm} {f : Nat → Int32} {n p : Nat} (hT : TX W f n) (hp : p < 900) (h : owh f p) : ∃ W' : Mm, f_X3_doOrder (nI p) W = some (oF f p (V W 0), W') ∧ V W' 0 = oA f p (V W 0) ∧ ∀ c, 10 ≤ c → W' c = W c := by
  unfold f_X3_doOrder oF oA
  rw [c_code hT (by omega), zb_of rfl]
  by_cases h1 : f p = 99
  · have q := oh99 h h1
    simp only [if_pos h1]
    rw [pa1, c_tka hT (by omega) q.1.1 q.1.2, zb_of rfl, pa4, c_tka hT (by omega) q.2.1.1 q.2.1.2, zb_of rfl, show (7 : Int32) = nI 7 from rfl, padd, c_dig hT (by omega), zb_of rfl, c_copy q.2.2.1 q.2.2.2.1 _ q.2.2.2.2, zb_of rfl]
    refine ⟨_, ?_, V_copy _ _ _ _, fun c hc => fr_copy _ _ _ _ hc⟩
    by_cases hr : qcr (V W 0) (otk f (p + 1)) (otk f (p + 4)) (f (p + 7) - 48) = 0
    · rw [if_pos hr, if_pos hr]
    · rw [if_neg hr, if_neg hr]
  · simp only [if_neg h1]
    by_cases h2 : f p = 112
    · have q := oh112 h h2
      simp only [if_pos h2]
      rw [pa1, c_tka hT (by omega) q.1.1 q.1.2, zb_of rfl, c_play q.2, zb_of rfl]
      refine ⟨_, ?_, V_play _ _, fun c hc => fr_play _ _ hc⟩
      by_cases hr : qplay (V W 0) (otk f (p + 1)) < 10
      · rw [if_pos hr, if_pos hr]
      · rw [if_neg hr, if_neg hr]
    · simp only [if_neg h2]
      by_cases h3 : f p = 115
      · have q := oh115 h h3
        simp only [if_pos h3]
        rw [pa1, c_tka hT (by omega) q.1.1 q.1.2, zb_of rfl, pa4, c_dig hT (by omega), zb_of rfl, c_speak q.2.1, zb_of rfl]
        refine ⟨_, ?_, V_speak _ _ _, fun c hc => fr_speak _ _ _ hc⟩
        by_cases hr : qsr (V W 0) (otk f (p + 1)) (f (p + 4) - 48) = 0
        · rw [if_pos hr, if_pos hr]
        · rw [if_neg hr, if_neg hr]
      · simp only [if_neg h3]
        by_cases h4 : f p = 120
        · have q := oh120 h h4
          simp only [if_pos h4]
          rw [pa1, c_cyl hT (by omega), zb_of rfl, (ocl_b q.1).2, c_shave q.2, zb_of rfl]
          refine ⟨_, ?_, V_shave _ q.2, fun c hc => fr_shave _ _ hc⟩
          by_cases hr : qshave (V W 0) (ocl f (p + 1)) = -1
          · rw [if_pos hr, if_pos hr]
          · rw [if_neg hr, if_neg hr]
        · simp only [if_neg h4]
          exact ⟨z_up W 0 10 100, rfl, V_u0_10 _ _, fun c hc => z_up_n _ _ _ (by omega)⟩
theorem sub49 (x : Int32) : x - 49 + 1 = x - 48 := by
  rw [Int32.sub_eq_add_neg, Int32.add_assoc, Int32.sub_eq_add_neg]
  rfl
theorem m_do {Y : Mm} {f : Nat → Int32} {p : Nat} {a : Nat → Int32} (h : owh f p) (hA : ARG f p Y) (hR : Rel a (Y 120)) : ∃ Y' : Mm, f_X4_does (f p) Y = some (oF f p a, Y') ∧ Y' 120 = oD f p (Y 120) ∧ ∀ c, c ≠ 120 → Y' c = Y c := by
  rw [oFeq h hR]
  unfold f_X4_does oF oD
  by_cases h1 : f p = 99
  · have q := oh99 h h1
    have r := hA.1 h1
    simp only [if_pos h1]
    rw [r.1, r.2.1, r.2.2, sub49, m_copy q.2.2.1 q.2.2.2.1 _ q.2.2.2.2, zb_of rfl]
    refine ⟨_, ?_, M_copy _ _ _ _, fun c hc => mf_copy _ _ _ _ hc⟩
    by_cases hr : qcr (Y 120) (otk f (p + 1)) (otk f (p + 4)) (f (p + 7) - 48) = 0
    · rw [if_pos hr, if_pos hr]
    · rw [if_neg hr, if_neg hr]
  · simp only [if_neg h1]
    by_cases h2 : f p = 112
    · have q := oh112 h h2
      simp only [if_pos h2]
      rw [hA.2.1 h2, m_play q.2, zb_of rfl]
      refine ⟨_, ?_, M_play _ _, fun c hc => mf_play _ _ hc⟩
      by_cases hr : qplay (Y 120) (otk f (p + 1)) < 10
      · rw [if_pos hr, if_pos hr]
      · rw [if_neg hr, if_neg hr]
    · simp only [if_neg h2]
      by_cases h3 : f p = 115
      · have q := oh115 h h3
        have r := hA.2.2.1 h3
        simp only [if_pos h3]
        rw [r.1, r.2, sub49, m_speak q.2.1, zb_of rfl]
        refine ⟨_, ?_, M_speak _ _ _, fun c hc => mf_speak _ _ _ hc⟩
        by_cases hr : qsr (Y 120) (otk f (p + 1)) (f (p + 4) - 48) = 0
        · rw [if_pos hr, if_pos hr]
        · rw [if_neg hr, if_neg hr]
      · simp only [if_neg h3]
        by_cases h4 : f p = 120
        · have q := oh120 h h4
          simp only [if_pos h4]
          rw [hA.2.2.2 h4, m_shave q.2, zb_of rfl]
          refine ⟨_, ?_, M_shave _ q.2, fun c hc => mf_shave _ _ hc⟩
          by_cases hr : qshave (Y 120) (ocl f (p + 1)) = -1
          · rw [if_pos hr, if_pos hr]
          · rw [if_neg hr, if_neg hr]
        · simp only [if_neg h4]
          have B1 := hR.2.2.2.2.1
          rw [hR.1.st (show 1 < 22 by decide)] at B1
          have e := i_sub (a := 100) (b := Y 120 1) (by rw [i_100]; omega) (by rw [i_100]; omega)
          rw [i_100] at e
          refine ⟨z_up Y 120 1 100, ?_, by rw [z_up_s], fun c hc => z_up_n _ _ _ hc⟩
          rw [show f_X4_fillsUp 1 Y = some (100 - Y 120 1, z_up Y 120 1 100) from rfl, zb_of rfl, if_neg (by rw [i_lt, i_0]; omega)]
