/-! PURE: undo, the buffer's characters -/
theorem L_undo {μ : Mm} (hJ : J μ) : Good2 f_L_undo f_X4_undo μ := by
  obtain ⟨hR, ⟨p, s, hp, hs, h90, hm, hsv⟩, hK, ⟨n, hn, ht1, ht2, ht3⟩, hB⟩ := id hJ
  by_cases hs0 : s = 0
  · refine good_err hJ (k := 1) (b := 0) ?_ ?_ (by decide)
    · unfold f_L_undo f_X3_undo
      rw [if_neg (show ¬ 0 < μ 90 4 by rw [h90, hs0]; decide)]; rfl
    · unfold f_X4_undo f_X4_undo_b13
      rw [if_pos (show μ 119 1 ≤ 0 by rw [hm, hs0]; decide), m_go0, zb_of rfl, if_pos rfl]
  · obtain ⟨r, rfl⟩ : ∃ r, s = r + 1 := ⟨s - 1, by omega⟩
    have hb := hp.1 r (by omega)
    obtain ⟨W, e, e1, e2⟩ := c_takeOver (z_up μ 90 4 (nI r)) (k := 0) (x := 10 * p r) (by decide) ⟨by omega, by omega⟩ (by omega)
    obtain ⟨ν, f, f1, f2, f3⟩ := m_copies (g5 (z_up W 125 0 (nI r)) 0) (a := r + 1) (b := 0) (by omega) (by omega) (by omega)
    have kW : ∀ c, 10 ≤ c → c ≠ 90 → W c = μ c := fun c h1 h2 => by rw [e2 c (by omega), z_up_n _ _ _ h2]
    have W90 : W 90 4 = nI r := by rw [e2 90 (by omega), z_up_s, upd_s]
    have gm : (g5 (z_up W 125 0 (nI r)) 0) 119 1 = nI (r + 1) := by rw [g5_k _ _ (by decide), z_up_n _ _ _ (by decide), kW 119 (by decide) (by decide)]; exact hm
    have ν1 : ν 119 1 = nI (r + 1) := by rw [f1 119 (by decide)]; exact gm
    have g120 : (g5 (z_up W 125 0 (nI r)) 0) 120 = μ 120 := by rw [g5_n _ _ (by decide), z_up_n _ _ _ (by decide), kW 120 (by decide) (by decide)]
    have e1' : ∀ j, j < 190 → V W 0 j = V μ (10 * p r) j := fun j hj => by
      rw [e1 j hj]; exact congrFun (V_same (fun c hc => z_up_n _ _ _ (by omega))) j
    have hpos : (0 : Int32) < nI (r + 1) := nI_lt (a := 0) (by omega) (by omega)
    refine ⟨0, z_up W 125 0 (nI r), nI r, z_up ν 119 1 (nI r), ?_, ?_, ?_, fun _ => ?_, ?_⟩
    · unfold f_L_undo f_X3_undo
      rw [if_pos (show 0 < μ 90 4 by rw [h90]; exact hpos), h90, nI_pred]
      simp (disch := omega) only [z_up_s, upd_s, pzix, pcl, if_true, z_up_n, hb.2, zrf]
      rw [if_pos (by omega), e, zb_of rfl, W90]; rfl
    · unfold f_X4_undo f_X4_undo_b13
      rw [z_up_n _ _ _ (by decide), kW 119 (by decide) (by decide), hm, if_neg (show ¬ nI (r + 1) ≤ 0 from fun q => by rw [i_le] at q; rw [i_lt] at hpos; omega), m_go11, zb_of rfl, if_neg (by decide), gm]
      rw [show f_X4_copies (nI (r + 1)) 0 (g5 (z_up W 125 0 (nI r)) 0) = some ((), ν) from f, zb_of rfl, ν1, nI_pred, z_up_s, upd_s]
    · rw [z_up_s, upd_n (by decide), f1 119 (by decide), g5_5]
    · rw [z_up_n _ _ _ (by decide), f1 125 (by decide), g5_n _ _ (by decide), z_up_s, upd_s]
    · have ky : ∀ c, 10 ≤ c → c ≠ 90 → c ≠ 119 → c ≠ 120 → c ≠ 125 → (z_up ν 119 1 (nI r)) c = μ c := fun c h1 h2 h3 h4 h5 => by rw [z_up_n _ _ _ h3, f1 c h4, g5_n _ _ h3, z_up_n _ _ _ h5, kW c h1 h2]
      have y120 : (z_up ν 119 1 (nI r)) 120 = ν 120 := z_up_n _ _ _ (by decide)
      have hVb : ∀ b, 10 ≤ b → b < 90 → b % 10 = 0 → V (z_up ν 119 1 (nI r)) b = V μ b := fun b h1 h2 h3 => V_same (fun c hc => ky _ (by omega) (by omega) (by omega) (by omega) (by omega))
      refine ⟨?_, ⟨p, r, ⟨fun i hi => ⟨(hp.1 i hi).1, ?_⟩, hp.2⟩, by omega, ?_, ?_, fun i hi => ?_⟩, fun q hq => ?_, ⟨n, hn, ?_, ?_, fun j hj => ?_⟩, ?_⟩
      · rw [y120]
        refine (hsv r (by omega)).congr (fun j hj => ?_) (fun j hj => ?_)
        · rw [← e1' j hj]
          exact congrFun (V_same (fun c hc => by rw [z_up_n _ _ _ (by omega), f1 _ (by omega), g5_n _ _ (by omega), z_up_n _ _ _ (by omega)])) j
        · have := f2 j hj
          rw [g120, show 190 * 0 + j = j by omega] at this
          exact this
      · rw [ky 93 (by decide) (by decide) (by decide) (by decide) (by decide)]; exact (hp.1 i hi).2
      · rw [z_up_n _ _ _ (by decide), f1 90 (by decide), g5_n _ _ (by decide), z_up_n _ _ _ (by decide)]; exact W90
      · rw [z_up_s, upd_s]
      · have hbi := (hp.1 i (by omega)).1
        rw [hVb _ (by omega) (by omega) (by omega), y120]
        exact (hsv i (by omega)).congr (fun _ _ => rfl) (fun j hj => by show ν 120 _ = _; rw [f3 _ (by omega), g120])
      · rw [ky 92 (by decide) (by decide) (by decide) (by decide) (by decide), ky 121 (by decide) (by decide) (by decide) (by decide) (by decide), hVb _ (by omega) (by omega) (by omega), y120]
        exact ⟨(hK q hq).1, fun h => ((hK q hq).2 h).congr (fun _ _ => rfl) (fun j hj => by show ν 120 _ = _; rw [f3 _ (by omega), g120])⟩
      · rw [ky 94 (by decide) (by decide) (by decide) (by decide) (by decide)]; exact ht1
      · rw [z_up_s, upd_n (by decide), f1 119 (by decide), g5_k _ _ (by decide), z_up_n _ _ _ (by decide), kW 119 (by decide) (by decide)]; exact ht2
      · rw [ky 95 (by decide) (by decide) (by decide) (by decide) (by decide), ky 122 (by decide) (by decide) (by decide) (by decide) (by decide)]; exact ht3 j hj
      · unfold JB; rw [ky 96 (by decide) (by decide) (by decide) (by decide) (by decide)]; exact hB
/-- only the text has changed -/
theorem J.txt {μ ν : Mm} (h : J μ) (hc : ∀ c, c ≠ 94 → c ≠ 95 → c ≠ 119 → c ≠ 122 → c ≠ 125 → ν c = μ c) (h1 : ν 119 1 = μ 119 1) (hT : ∃ n, JT ν n) : J ν := by
  obtain ⟨hR, ⟨p, s, hp, hs, h90, hm, hsv⟩, hK, _, hB⟩ := h
  have hV : ∀ b, b % 10 = 0 → b < 90 → V ν b = V μ b := fun b hb hb2 => V_same (fun c hc1 => hc _ (by omega) (by omega) (by omega) (by omega) (by omega))
  have e120 : ν 120 = μ 120 := hc _ (by decide) (by decide) (by decide) (by decide) (by decide)
  refine ⟨?_, ⟨p, s, ⟨fun i hi => ⟨(hp.1 i hi).1, ?_⟩, hp.2⟩, hs, ?_, ?_, fun i hi => ?_⟩, fun k hk => ?_, hT, ?_⟩
  · rw [hV 0 (by decide) (by decide), e120]; exact hR
  · rw [hc 93 (by decide) (by decide) (by decide) (by decide) (by decide)]; exact (hp.1 i hi).2
  · rw [hc 90 (by decide) (by decide) (by decide) (by decide) (by decide)]; exact h90
  · rw [h1]; exact hm
  · have hb := (hp.1 i (by omega)).1
    rw [hV _ (by omega) (by omega), e120]; exact hsv i hi
  · rw [hc 92 (by decide) (by decide) (by decide) (by decide) (by decide), hc 121 (by decide) (by decide) (by decide) (by decide) (by decide), hV _ (by omega) (by omega), e120]; exact hK k hk
  · unfold JB; rw [hc 96 (by decide) (by decide) (by decide) (by decide) (by decide)]; exact hB
theorem L_clearBuffer {μ : Mm} (hJ : J μ) : Good1 f_X3_clearBuffer f_X4_clearBuffer μ := by
  obtain ⟨n, hn, ht1, ht2, ht3⟩ := hJ.2.2.2.1
  refine ⟨nI n, z_up μ 94 1 0, z_up (z_up (z_up μ 94 1 0) 119 5 0) 119 4 0, ?_, ?_, ?_⟩
  · unfold f_X3_clearBuffer f_X0_drop
    rw [zb_of rfl, ht1]
  · unfold f_X4_clearBuffer
    rw [z_up_s, upd_n (by decide), z_up_n _ _ _ (by decide), ht2]
  · refine hJ.txt (fun c h1 _ h3 _ _ => by rw [z_up_n _ _ _ h3, z_up_n _ _ _ h3, z_up_n _ _ _ h1]) (by rw [z_up_s, upd_n (by decide), z_up_s, upd_n (by decide), z_up_n _ _ _ (by decide)]) ⟨0, by decide, ?_, ?_, fun j hj => absurd hj (by omega)⟩
    · rw [z_up_n _ _ _ (by decide), z_up_n _ _ _ (by decide), z_up_s, upd_s]; rfl
    · rw [z_up_s, upd_s]; rfl
theorem chr_ok : ∀ c : Nat, c < 127 → vp_nar .char ((((nI c)).toUInt32 % 65536).toInt32) = nI c := by decide +kernel
theorem code_cases (x : Int32) : (∃ c : Nat, 33 ≤ c ∧ c < 127 ∧ x = nI c) ∨ ¬ (33 ≤ x ∧ x ≤ 126) := by
  by_cases h : 33 ≤ x ∧ x ≤ 126
  · rcases pcase x with h0 | ⟨c, hc, rfl⟩
    · exfalso
      have h1 := h.1
      rw [i_lt, i_0] at h0
      rw [i_le, show (33 : Int32).toInt = 33 by decide] at h1
      omega
    · have h1 := h.1
      have h2 := h.2
      rw [i_le, show (33 : Int32).toInt = 33 by decide, nI_toInt hc] at h1
      rw [i_le, show (126 : Int32).toInt = 126 by decide, nI_toInt hc] at h2
      exact Or.inl ⟨c, by omega, by omega, rfl⟩
  · exact Or.inr h
theorem two33 (x : Int32) {α : Type} (a b : α) : (if x < 33 then a else if x ≤ 126 then b else a) = if 33 ≤ x ∧ x ≤ 126 then b else a := by
  by_cases h1 : x < 33
  · rw [if_pos h1, if_neg (fun q => by have := q.1; rw [i_le] at this; rw [i_lt] at h1; omega)]
  · rw [if_neg h1]
    by_cases h2 : x ≤ 126
    · rw [if_pos h2, if_pos ⟨by rw [i_lt] at h1; rw [i_le]; omega, h2⟩]
    · rw [if_neg h2, if_neg (fun q => h2 q.2)]
theorem L_append {μ : Mm} (hJ : J μ) (x : Int32) : Good2 (f_L_append x) (f_X4_append x) μ := by
  obtain ⟨n, hn, ht1, ht2, ht3⟩ := hJ.2.2.2.1
  rcases code_cases x with ⟨c, hc1, hc2, rfl⟩ | hx
  · have hin : (33 : Int32) ≤ nI c ∧ nI c ≤ 126 := ⟨nI_le (a := 33) hc1 (by omega), nI_le (b := 126) (by omega) (by decide)⟩
    by_cases hfull : n < 60
    · have hlt : nI n < (60 : Int32) := nI_lt (b := 60) hfull (by decide)
      have nle : ¬ (60 : Int32) ≤ nI n := pge (b := 60) hfull (by decide)
      refine ⟨0, z_up (z_up (z_up μ 95 n (nI c)) 94 1 (nI (n + 1))) 125 0 (nI (n + 1)), nI (n + 1), z_up (z_up (g5 (z_up (z_up (z_up μ 95 n (nI c)) 94 1 (nI (n + 1))) 125 0 (nI (n + 1))) 0) 122 n (nI c)) 119 4 (nI (n + 1)), ?_, ?_, ?_, fun _ => ?_, ?_⟩
      · unfold f_L_append f_X3_append f_X0_isFull f_X0_take f_X0_isFull
        rw [two33, if_pos hin, if_pos (show μ 94 1 < 60 by rw [ht1]; exact hlt), zb_of rfl, if_pos rfl, if_pos (show μ 94 1 < 60 by rw [ht1]; exact hlt), zb_of rfl, if_pos rfl]
        simp (disch := omega) only [pzix, pcl, if_true, zm, chr_ok, z_up_n, ht1, pa1]
        rw [zb_of rfl, z_up_s, upd_s]; rfl
      · unfold f_X4_append f_X4_append_b23
        have k4 : (z_up (z_up (z_up μ 95 n (nI c)) 94 1 (nI (n + 1))) 125 0 (nI (n + 1))) 119 4 = nI n := by
          rw [z_up_n _ _ _ (by decide), z_up_n _ _ _ (by decide), z_up_n _ _ _ (by decide)]; exact ht2
        rw [m_in, if_pos hin, zb_of rfl, k4, if_neg nle, m_go11, zb_of rfl, if_neg (by decide), g5_k _ _ (by decide), k4]
        simp (disch := omega) only [pzix, pcl, if_true, zm, chr_ok]
        rw [z_up_n (a := 119) (k := 122) (h := by decide), g5_k _ _ (by decide), k4, pa1, z_up_s, upd_s]
      · rw [z_up_s, upd_n (by decide), z_up_n _ _ _ (by decide), g5_5]
      · rw [z_up_n _ _ _ (by decide), z_up_n _ _ _ (by decide), g5_n _ _ (by decide), z_up_s, upd_s]
      · refine hJ.txt (fun c h1 h2 h3 h4 h5 => ?_) ?_ ⟨n + 1, by omega, ?_, ?_, fun j hj => ?_⟩
        · rw [z_up_n _ _ _ h3, z_up_n _ _ _ h4, g5_n _ _ h3, z_up_n _ _ _ h5, z_up_n _ _ _ h1, z_up_n _ _ _ h2]
        · rw [z_up_s, upd_n (by decide), z_up_n _ _ _ (by decide), g5_k _ _ (by decide), z_up_n _ _ _ (by decide), z_up_n _ _ _ (by decide), z_up_n _ _ _ (by decide)]
        · rw [z_up_n _ _ _ (by decide), z_up_n _ _ _ (by decide), g5_n _ _ (by decide), z_up_n _ _ _ (by decide), z_up_s, upd_s]
        · rw [z_up_s, upd_s]
        · have e95 : (z_up (z_up (g5 (z_up (z_up (z_up μ 95 n (nI c)) 94 1 (nI (n + 1))) 125 0 (nI (n + 1))) 0) 122 n (nI c)) 119 4 (nI (n + 1))) 95 = upd (μ 95) n (nI c) := by
            rw [z_up_n _ _ _ (by decide), z_up_n _ _ _ (by decide), g5_n _ _ (by decide), z_up_n _ _ _ (by decide), z_up_n _ _ _ (by decide), z_up_s]
          have e122 : (z_up (z_up (g5 (z_up (z_up (z_up μ 95 n (nI c)) 94 1 (nI (n + 1))) 125 0 (nI (n + 1))) 0) 122 n (nI c)) 119 4 (nI (n + 1))) 122 = upd (μ 122) n (nI c) := by
            rw [z_up_n _ _ _ (by decide), z_up_s, g5_n _ _ (by decide), z_up_n _ _ _ (by decide), z_up_n _ _ _ (by decide), z_up_n _ _ _ (by decide)]
          rw [e95, e122]
          by_cases hjn : j = n
          · subst hjn
            rw [upd_s, upd_s, nI_toInt (by omega)]
            exact ⟨rfl, by omega, by omega⟩
          · rw [upd_n hjn, upd_n hjn]; exact ht3 j (by omega)
    · have hn60 : n = 60 := by omega
      subst hn60
      refine good_err hJ (k := 2) (b := 0) ?_ ?_ (by decide)
      · unfold f_L_append f_X3_append f_X0_isFull
        rw [two33, if_pos hin, ht1, if_neg (by decide), zb_of rfl, if_neg (by decide)]; rfl
      · unfold f_X4_append f_X4_append_b23
        rw [m_in, if_pos hin, zb_of rfl, ht2, if_pos (by decide), m_go10, zb_of rfl, if_pos rfl]
  · refine good_err hJ (k := 1) (b := 0) ?_ ?_ (by decide)
    · unfold f_L_append f_X3_append
      rw [two33, if_neg hx]; rfl
    · unfold f_X4_append f_X4_append_b23
      rw [m_in, if_neg hx, zb_of rfl]
      split <;> rw [m_go0, zb_of rfl, if_pos rfl]
