/-! p30, PURE: one step of a chain is the best copy with the spring wound up -/
theorem steps_ok {n : Nat} (hn : n < 100) {μ : Mm} (h : Lw n μ) {t : Nat} (ht : t < 12) : ∃ ν : Mm, f_L_steps (nI t) μ = some (1, ν) ∧ Lw n ν := by
  obtain ⟨⟨s, hd⟩, hI⟩ := id h
  have ht24 : t < 24 := by omega
  obtain ⟨μ1, w1, s1⟩ := l_chn hd.1 hI (t := t) (C := 1) (w := 1) ht24 (by decide) (by decide)
  have w1 : f_L_chain (nI t) 1 1 μ = some (qchain (V μ 0) t 1 1, μ1) := w1
  have hd1 := s1.hd hd
  have eV : V μ1 0 = V μ 0 := s1.V
  have eo : ((nI t / 4) + 1) - ((nI t / 4) + 1) / 6 * 6 = nI ((t / 4 + 1) % 6) := by rw [pdiv4 (by omega), pa1]; exact prem (n := 6) (by omega) (by decide) (by decide)
  generalize ho : (t / 4 + 1) % 6 = o at eo
  have ho6 : o < 6 := by omega
  have hot : t / 4 ≠ o := by omega
  obtain ⟨ν, w2, hV, hdν⟩ := op_renew ho6 (l := 100) (by decide) μ1 s [] hd1 (by decide)
  have w2 : f_L_renew (nI o) 100 μ1 = some (V μ1 0 (10 + 2 * o), ν) := w2
  have hV : V ν 0 = b_sm (arn (V μ1 0) o 100) o := hV
  obtain ⟨ξ, w3, hX, hdξ⟩ := op_wind ν (sU s) [V μ1 0] hdν (by show 1 ≤ 5; decide)
  have w3 : f_X3_wind ν = some (100 - V ν 0 1, ξ) := w3
  have hX : V ξ 0 = upd (V ν 0) 1 100 := hX
  obtain ⟨ξ1, u1, _, hdξ1⟩ := hd_undo hdξ
  obtain ⟨ρ, u2, pr, h1, h2⟩ := back_ok hdξ1
  rw [eV] at h1 pr
  refine ⟨ρ, ?_, h.of h2 h1⟩
  have av : ∀ w, w < 7 → V ξ 0 (22 + 7 * t + w) = V μ 0 (22 + 7 * t + w) := fun w hw => by
    rw [hX, upd_n (by omega), hV, sm_o _ o hw (Or.inl hot), eV]; unfold arn; simp (disch := omega) only [upd_n]
  have a0 : V ξ 0 0 = V μ 0 0 := by rw [hX, upd_n (by decide), hV, sm_j _ o (by decide), eV]; unfold arn; simp (disch := omega) only [upd_n]
  have a1 : V ξ 0 1 = 100 := by rw [hX, upd_s]
  have al : V ξ 0 (10 + 2 * o) = 100 := by rw [hX, upd_n (by omega), hV, sm_j _ o (by omega)]; unfold arn; simp (disch := omega) only [upd_s, upd_n]
  have ao : V ξ 0 (22 + 7 * (4 * o)) = 0 := by rw [hX, upd_n (by omega), hV, (sm_t _ (show 4 * o / 4 = o by omega)).1]
  have aν1 : V ν 0 1 = V μ 0 1 := by rw [hV, sm_j _ o (by decide), eV]; unfold arn; simp (disch := omega) only [upd_n]
  have afl : qfl (V ξ 0) = 0 := by unfold qfl; rw [a1, if_neg (by decide)]
  have hcut : qcut (V ξ 0) t = qcut (V μ 0) t := qcut_of (av 0 (by decide))
  have ewb : ∀ l : Int32, lev l → qwb (V ξ 0) t (4 * o) l = if qcut (V μ 0) t = 0 then -1 else qcc (V μ 0 (22 + 7 * t + 1)) l (V μ 0 0) 0 := fun l hl => by
    by_cases hc : qcut (V μ 0) t = 0
    · have e : qcr (V ξ 0) t (4 * o) l = 1 := by unfold qcr; rw [hcut, if_pos hc]
      unfold qwb
      rw [e, if_neg (by decide), if_pos hc]
    · have hq := qcd_b (V ξ 0 (22 + 7 * t)) l
      have e : qcr (V ξ 0) t (4 * o) l = 0 := by
        unfold qcr
        rw [hcut, if_neg hc, if_pos (qcut_z.mpr (by rw [ao, i_0]; exact Int.le_refl _)), if_neg (by omega), show 4 * o / 4 = o by omega, al, a1, if_pos (by rw [i_le, i_100]; omega), if_pos (by decide)]
      unfold qwb
      rw [e, if_pos rfl, if_neg hc]
      unfold qcl
      rw [av 1 (by decide), a0, afl]
  have stp : ∀ (m k : Nat) (x2 : Int32) (x3 : Int64) (x6 x7 x8 : Int32), 1 ≤ k ∧ k ≤ 3 → f_L_steps_b45 (m + 1) (nI t) x2 x3 (nI o) x6 x7 x8 (nI k) ξ = f_L_steps_b45 m (nI t) x2 x3 (nI o) x6 x7 (qmax x8 (qwb (V ξ 0) t (4 * o) (nI k))) (nI (k + 1)) ξ := fun m k x2 x3 x6 x7 x8 hk => by
    have w : f_L_ifCopied (nI t) (nI (4 * o)) (nI k) ξ = some (qwb (V ξ 0) t (4 * o) (nI k), ξ) := l_wb ht24 (by omega) (nI_rng (a := 1) (b := 3) hk.1 hk.2 (by decide))
    rw [f_L_steps_b45, if_neg (show ¬ (4 : Int32) ≤ nI k from pge (b := 4) (by omega) (by omega)), p4m, w, zb_of rfl, pa1]
    by_cases hle : qwb (V ξ 0) t (4 * o) (nI k) ≤ x8
    · rw [if_pos hle]
      have : qmax x8 (qwb (V ξ 0) t (4 * o) (nI k)) = x8 := by unfold qmax; rw [if_neg (fun q => by rw [i_lt] at q; rw [i_le] at hle; omega)]
      rw [this]
    · rw [if_neg hle]
      have : qmax x8 (qwb (V ξ 0) t (4 * o) (nI k)) = qwb (V ξ 0) t (4 * o) (nI k) := by unfold qmax; rw [if_pos (by rw [i_lt]; rw [i_le] at hle; omega)]
      rw [this]
  have most : qmax (qmax (qmax (-1) (qwb (V ξ 0) t (4 * o) (nI 1))) (qwb (V ξ 0) t (4 * o) (nI 2))) (qwb (V ξ 0) t (4 * o) (nI 3)) = qchain (V μ 0) t 1 1 := by
    rw [ewb (nI 1) (Or.inl rfl), ewb (nI 2) (Or.inr (Or.inl rfl)), ewb (nI 3) (Or.inr (Or.inr rfl))]
    unfold qchain
    by_cases hc : qcut (V μ 0) t = 0
    · rw [if_pos hc, if_pos hc, if_pos hc, if_pos hc]; decide
    · rw [if_neg hc, if_neg hc, if_neg hc, if_neg hc, if_neg (by decide)]; rfl
  have hly := hI.2.2.2.2.1 o ho6
  have hsp := hI.2.2.1
  have hwd := sub100 (x := V ν 0 1) (by rw [aν1]; exact hsp)
  unfold f_L_steps
  rw [w1, zb_of rfl, l_print, zb_of rfl, eo, w2, zb_of rfl, w3, zb_of rfl, show z_F = 1196 + 1 + 1 + 1 + 1 from rfl, show (1 : Int32) = nI 1 from rfl, stp _ 1 _ _ _ _ _ (by decide), stp _ 2 _ _ _ _ _ (by decide), stp _ 3 _ _ _ _ _ (by decide), show ((-nI 1 : Int32)) = -1 from rfl, most,
    f_L_steps_b45, if_pos (show (4 : Int32) ≤ nI 4 by decide), if_neg (fun q => by rw [eV, i_lt, i_0] at q; omega), if_neg (fun q => by rw [i_lt, i_0, hwd, aν1] at q; omega), if_pos rfl, u1, zb_of rfl, if_neg (s1_nn hdξ.2.1), u2, zb_of rfl, if_neg (s1_nn hdξ1.2.1), pr, zb_of rfl, eV, if_pos ((lg_cmp_eq _ _).mpr rfl)]
  rfl
