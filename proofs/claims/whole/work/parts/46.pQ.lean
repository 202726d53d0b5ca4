/-! PURE: chain -/
theorem J.scr2 {μ ν : Mm} (h : J μ) (hc : ∀ c, c ≠ 119 → c ≠ 125 → ¬ (96 ≤ c ∧ c < 119) → c ≠ 123 → c ≠ 124 → ν c = μ c) (hB : JB ν) (h1 : ν 119 1 = μ 119 1) (h4 : ν 119 4 = μ 119 4) : J ν := by
  have hJ : J (z_row ν 96 (μ 96)) := by
    refine h.scr (fun c c1 c2 c3 c4 c5 => ?_) (by rw [z_row_n _ _ (by decide)]; exact h1) (by rw [z_row_n _ _ (by decide)]; exact h4)
    by_cases h96 : c = 96
    · rw [h96, z_row_s]
    · rw [z_row_n _ _ h96]; exact hc c c1 c2 (by omega) c4 c5
  obtain ⟨hR, ⟨p, s, ⟨hp1, hp2⟩, hs, h90, hm, hsv⟩, hK, ⟨n, hn, ht1, ht2, ht3⟩, _⟩ := hJ
  have e : ∀ c, c ≠ 96 → z_row ν 96 (μ 96) c = ν c := fun c h => z_row_n _ _ h
  have hV : ∀ b, b % 10 = 0 → b < 90 → V (z_row ν 96 (μ 96)) b = V ν b := fun b hb hb2 => (V_same (fun c hc => (e _ (by omega)).symm)).symm
  refine ⟨?_, ⟨p, s, ⟨fun i hi => ⟨(hp1 i hi).1, ?_⟩, hp2⟩, hs, ?_, ?_, fun i hi => ?_⟩, fun k hk => ?_, ⟨n, hn, ?_, ?_, fun j hj => ?_⟩, hB⟩
  · rw [hV 0 (by decide) (by decide), e 120 (by decide)] at hR; exact hR
  · have := (hp1 i hi).2; rw [e 93 (by decide)] at this; exact this
  · rw [e 90 (by decide)] at h90; exact h90
  · rw [e 119 (by decide)] at hm; exact hm
  · have hb := (hp1 i (by omega)).1
    have := hsv i hi
    rw [hV _ (by omega) (by omega), e 120 (by decide)] at this; exact this
  · have := hK k hk
    rw [e 92 (by decide), e 121 (by decide), hV _ (by omega) (by omega), e 120 (by decide)] at this; exact this
  · rw [e 94 (by decide)] at ht1; exact ht1
  · rw [e 119 (by decide)] at ht2; exact ht2
  · have := ht3 j hj
    rw [e 95 (by decide), e 122 (by decide)] at this; exact this
theorem of_b {x : Int32} {B : Nat} (h : 0 ≤ x.toInt ∧ x.toInt ≤ (B : Int)) : ∃ t : Nat, t ≤ B ∧ t < 2 ^ 31 ∧ x = nI t := by
  rcases pcase x with h1 | ⟨t, ht, rfl⟩
  · rw [i_lt, i_0] at h1; omega
  · rw [nI_toInt ht] at h
    exact ⟨t, by omega, ht, rfl⟩
def qchain (a : Nat → Int32) (t C w : Nat) : Int32 := if qcut a t = 0 then -1 else if w = 0 then mxF (itF C (zF0 (a (22 + 7 * t)).toNatClampNeg (a 0).toNatClampNeg (a (22 + 7 * t + 1)))) else qall C (a (22 + 7 * t)) (a (22 + 7 * t + 1)) (a 0)
theorem c_chain {μ : Mm} (hB : JB μ) (hR : Bd (V μ 0)) {t C w : Nat} (ht : t < 24) (hC : 1 ≤ C ∧ C ≤ 5) (hw : w < 2) : ∃ ν : Mm, f_X3_chain (nI t) (nI C) (nI w) μ = some (.inr (qchain (V μ 0) t C w), ν) ∧ (∀ c, c < 96 ∨ 119 ≤ c → ν c = μ c) ∧ JB ν := by
  have a1 : ¬ nI C < 1 := nI_nlt (b := 1) (by omega) (by omega)
  have a2 : nI C ≤ 5 := nI_le (b := 5) (by omega) (by omega)
  by_cases hc : qcut (V μ 0) t = 0
  · refine ⟨μ, ?_, fun _ _ => rfl, hB⟩
    unfold f_X3_chain qchain
    rw [ck_tr ht, zbx_of rfl, if_neg a1, if_pos a2, show (2 : Int32) = nI 2 from rfl, ck_wh hw (by decide), zbx_of rfl, c_cut ht, zb_of rfl, if_pos hc, if_pos hc]
  · obtain ⟨d, hd, hd3, ed⟩ := of_b (B := 9) (hR.1 t ht).1
    obtain ⟨s, hs, hs3, es⟩ := of_b (B := 100) hR.2.1
    have hd1 : 1 ≤ d := by
      have := qcut_pos' hc
      rw [ed, nI_toInt hd3] at this
      omega
    have e1 : μ 1 t = nI d := by rw [← V_d μ 0 t] at *; exact ed
    have e0 : μ 0 9 = nI s := es
    have hw2 : w = 0 ∨ w = 1 := by omega
    rcases hw2 with rfl | rfl
    · obtain ⟨ν, b1, b2, b3⟩ := c_steps (μ := μ) (C := C) (d := d) (s := s) (c := μ 2 t) hB (by omega) ⟨hd1, hd⟩ hs
      refine ⟨ν, ?_, b2, b3⟩
      unfold f_X3_chain qchain
      rw [ck_tr ht, zbx_of rfl, if_neg a1, if_pos a2, show (2 : Int32) = nI 2 from rfl, ck_wh hw (by decide), zbx_of rfl, c_cut ht, zb_of rfl, if_neg hc, if_neg hc]
      simp (disch := omega) only [pzix, pcl, if_true]
      rw [if_pos (show nI 0 = 0 from rfl), e1, e0, b1, zb_of rfl, ed, es, pcl hd3, pcl hs3, c_c1]
    · refine ⟨μ, ?_, fun _ _ => rfl, hB⟩
      unfold f_X3_chain qchain
      rw [ck_tr ht, zbx_of rfl, if_neg a1, if_pos a2, show (2 : Int32) = nI 2 from rfl, ck_wh hw (by decide), zbx_of rfl, c_cut ht, zb_of rfl, if_neg hc, if_neg hc]
      simp (disch := omega) only [pzix, pcl, if_true]
      rw [if_neg (show ¬ nI 1 = 0 by decide), c_all5 C hC.2, zb_of rfl, if_neg (by decide), V_d, c_c1, V_st _ _ _ (by decide)]
theorem m_chain {μ : Mm} {a : Nat → Int32} (hR : Rel a (μ 120)) {t C w : Nat} (ht : t < 24) (hC : 1 ≤ C ∧ C ≤ 5) (hw : w < 2) : ∃ ν : Mm, f_X4_chained (nI t) (nI C) (nI w) μ = some (qchain a t C w, ν) ∧ ∀ c, c ≠ 123 → c ≠ 124 → ν c = μ c := by
  have ec := hR.1.cut ht
  have e1 := hR.1.d ht
  have e0 := hR.1.st (show 0 < 22 by decide)
  have e2 := hR.1.tr ht 1 (by decide) (by decide)
  by_cases hc : qcut a t = 0
  · refine ⟨μ, ?_, fun _ _ _ => rfl⟩
    unfold f_X4_chained qchain
    rw [m_cut ht, zb_of rfl, ← ec, if_pos hc, if_pos hc]
  · obtain ⟨d, hd, hd3, ed⟩ := of_b (B := 9) (hR.2.2.1 t ht).1
    obtain ⟨s, hs, hs3, es⟩ := of_b (B := 100) hR.2.2.2.1
    have hd1 : 1 ≤ d := by
      have := qcut_pos' hc
      rw [ed, nI_toInt hd3] at this
      omega
    have hw2 : w = 0 ∨ w = 1 := by omega
    rcases hw2 with rfl | rfl
    · obtain ⟨ν, b1, b2⟩ := m_steps (μ := μ) (C := C) (d := d) (s := s) ht (by omega) ⟨hd1, hd⟩ hs (by rw [← e1]; exact ed) (by rw [← e0]; exact es)
      refine ⟨ν, ?_, b2⟩
      unfold f_X4_chained qchain
      rw [m_cut ht, zb_of rfl, ← ec, if_neg hc, if_neg hc, if_pos (show nI 0 = 0 from rfl), b1, zb_of rfl, if_pos rfl, ed, es, pcl hd3, pcl hs3, e2]
    · refine ⟨μ, ?_, fun _ _ _ => rfl⟩
      unfold f_X4_chained qchain
      rw [m_cut ht, zb_of rfl, ← ec, if_neg hc, if_neg hc, if_neg (show ¬ nI 1 = 0 by decide), m_trying ht hC.2 (by rw [← e2]; exact (hR.2.2.1 t ht).2.1), zb_of rfl, if_neg (by decide), e1, e2, e0]
theorem L_chain {μ : Mm} (hJ : J μ) (x y w : Int32) : Good2 (f_L_chain x y w) (f_X4_chain x y w) μ := by
  rcases trk x with ⟨t, ht, rfl⟩ | hx
  · by_cases hy : 1 ≤ y ∧ y ≤ 5
    · obtain ⟨C, hC, hC3, rfl⟩ := of_b (x := y) (B := 5) (by have h1 := hy.1; have h2 := hy.2; rw [i_le, i_1] at h1; rw [i_le, i_5] at h2; omega)
      have hC1 : 1 ≤ C := by have h1 := hy.1; rw [i_le, i_1, nI_toInt hC3] at h1; omega
      rcases rng w (N := 2) (by decide) with ⟨w, hw, rfl⟩ | hw
      · obtain ⟨m, a1, a2, a3⟩ := c_chain hJ.2.2.2.2 hJ.1.2.2 ht ⟨hC1, hC⟩ hw
        have g120 : g5 (z_up m 125 0 (qchain (V μ 0) t C w)) 0 120 = μ 120 := by rw [g5_n _ _ (by decide), z_up_n _ _ _ (by decide), a2 120 (by omega)]
        obtain ⟨m2, b1, b2⟩ := m_chain (μ := g5 (z_up m 125 0 (qchain (V μ 0) t C w)) 0) (a := V μ 0) (by rw [g120]; exact hJ.1) ht ⟨hC1, hC⟩ hw
        refine ⟨0, z_up m 125 0 (qchain (V μ 0) t C w), qchain (V μ 0) t C w, m2, ?_, ?_, ?_, fun _ => ?_, ?_⟩
        · unfold f_L_chain
          rw [a1]; rfl
        · unfold f_X4_chain f_X4_chain_b28
          rw [mi_tr ht, zb_of rfl, m_in, if_pos hy, zb_of rfl, if_neg (by decide), show f_X4_in (nI w) 0 1 (z_up m 125 0 (qchain (V μ 0) t C w)) = some (1, z_up m 125 0 (qchain (V μ 0) t C w)) from mi_wh hw (by decide), zb_of rfl, if_neg (by decide), m_go11, zb_of rfl, if_neg (by decide), b1, zb_of rfl]
        · rw [b2 119 (by decide) (by decide), g5_5]
        · rw [b2 125 (by decide) (by decide), g5_n _ _ (by decide), z_up_s, upd_s]
        · refine hJ.scr2 (fun c c1 c2 c3 c4 c5 => ?_) ?_ ?_ ?_
          · rw [b2 c c4 c5, g5_n _ _ c1, z_up_n _ _ _ c2, a2 c (by omega)]
          · unfold JB; rw [b2 96 (by decide) (by decide), g5_n _ _ (by decide), z_up_n _ _ _ (by decide)]; exact a3
          · rw [b2 119 (by decide) (by decide), g5_k _ _ (by decide), z_up_n _ _ _ (by decide), a2 119 (by omega)]
          · rw [b2 119 (by decide) (by decide), g5_k _ _ (by decide), z_up_n _ _ _ (by decide), a2 119 (by omega)]
      · refine good_err hJ (k := 2) (b := 0) ?_ ?_ (by decide)
        · unfold f_L_chain f_X3_chain
          rw [ck_tr ht, zbx_of rfl, if_neg (show ¬ nI C < 1 from nI_nlt (b := 1) (by omega) (by omega)), if_pos hy.2, show (2 : Int32) = nI 2 from rfl, ck_whn hw, zbx_ofl rfl]; rfl
        · unfold f_X4_chain f_X4_chain_b28
          rw [mi_tr ht, zb_of rfl, m_in, if_pos hy, zb_of rfl, if_neg (by decide), show f_X4_in w 0 1 μ = some (0, μ) from mi_whn (N := 2) (by decide) (by decide) hw, zb_of rfl, if_pos rfl, m_go10, zb_of rfl, if_pos rfl]
    · refine good_err hJ (k := 2) (b := 0) ?_ ?_ (by decide)
      · unfold f_L_chain f_X3_chain
        rw [ck_tr ht, zbx_of rfl]
        by_cases h1 : y < 1
        · rw [if_pos h1]; rfl
        · rw [if_neg h1, if_neg (fun q => hy ⟨by rw [i_lt] at h1; rw [i_le]; omega, q⟩)]; rfl
      · unfold f_X4_chain f_X4_chain_b28
        rw [mi_tr ht, zb_of rfl, m_in, if_neg hy, zb_of rfl, if_pos rfl, m_go10, zb_of rfl, if_pos rfl]
  · refine good_err hJ (k := 1) (b := 0) ?_ ?_ (by decide)
    · unfold f_L_chain f_X3_chain
      rw [ck_trn hx, zbx_ofl rfl]; rfl
    · unfold f_X4_chain f_X4_chain_b28
      rw [mi_trn hx, zb_of rfl, m_in, zb_of rfl]
      by_cases h4 : (if (1 : Int32) ≤ y ∧ y ≤ 5 then (1 : Int32) else 0) = 0
      · rw [if_pos h4, m_go0, zb_of rfl, if_pos rfl]
      · rw [if_neg h4, m_in, zb_of rfl]
        by_cases h5 : (if (0 : Int32) ≤ w ∧ w ≤ 1 then (1 : Int32) else 0) = 0
        · rw [if_pos h5, m_go0, zb_of rfl, if_pos rfl]
        · rw [if_neg h5, m_go0, zb_of rfl, if_pos rfl]
