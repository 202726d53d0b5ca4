/-! p30, PURE: the law -/
theorem lw_hangs {n : Nat} (hn : n < 100) {μ : Mm} (h : Lw n μ) : ∃ ν : Mm, f_L_hangs μ = some (1, ν) ∧ Lw n ν := by
  obtain ⟨⟨s, hd⟩, hI⟩ := id h
  obtain ⟨ν, e, sm⟩ := hangs_ok (by omega : n < 1000) hd.1 hI
  exact ⟨ν, e, ⟨s, sm.hd hd⟩, by rw [sm.V]; exact hI⟩
theorem lw_b184 {L : Nat} {xs : Nat → Int32} {ag : Int32 → Mm → Option Unit} {k n : Nat} (hn : n < 100) (x y : Int32) {μ : Mm} (h : Lw n μ) (hag : ∀ ν : Mm, Lw n ν → ag (nI (k + 1)) ν = some ()) : f_L_law_b184 L xs ag (nI k) x y μ = some () := by
  obtain ⟨f, hf, e1⟩ := low_ok (x >>> (3 &&& 31)) (n := 12) (by decide) (by decide)
  obtain ⟨t, ht, e2⟩ := low_ok (y >>> (4 &&& 31)) (n := 24) (by decide) (by decide)
  obtain ⟨l, hl, e3⟩ := low_ok (x >>> (7 &&& 31)) (n := 3) (by decide) (by decide)
  obtain ⟨u, hu, e4⟩ := low_ok (y >>> (6 &&& 31)) (n := 24) (by decide) (by decide)
  obtain ⟨i, hi, e5⟩ := low_ok (x >>> (9 &&& 31)) (n := 9) (by decide) (by decide)
  obtain ⟨v, hv, e6⟩ := low_ok (x >>> (5 &&& 31)) (n := 12) (by decide) (by decide)
  obtain ⟨c, hc, e7⟩ := low_ok (y >>> (2 &&& 31)) (n := 6) (by decide) (by decide)
  obtain ⟨μ1, c1, h1⟩ := copies_ok hn h (f := f) (t := t) (by omega) ht (l := nI (1 + l)) (nI_rng (a := 1) (b := 3) (by omega) (by omega) (by decide))
  obtain ⟨μ2, c2, h2⟩ := speaks_ok hn h1 hu (l := nI (1 + i)) (nI_rng (a := 1) (b := 9) (by omega) (by omega) (by decide))
  obtain ⟨μ3, c3, h3⟩ := steps_ok hn h2 hv
  obtain ⟨μ4, c4, h4⟩ := shaves_ok hn h3 hc
  unfold f_L_law_b184
  rw [show f_L_low (x >>> (3 &&& 31)) 12 μ = some (nI f, μ) from e1 μ, zb_of rfl, show f_L_low (y >>> (4 &&& 31)) 24 μ = some (nI t, μ) from e2 μ, zb_of rfl, show f_L_low (x >>> (7 &&& 31)) 3 μ = some (nI l, μ) from e3 μ, zb_of rfl, p1add, c1, zb_of rfl, if_neg (by decide),
    show f_L_low (y >>> (6 &&& 31)) 24 μ1 = some (nI u, μ1) from e4 μ1, zb_of rfl, show f_L_low (x >>> (9 &&& 31)) 9 μ1 = some (nI i, μ1) from e5 μ1, zb_of rfl, p1add, c2, zb_of rfl, if_neg (by decide),
    show f_L_low (x >>> (5 &&& 31)) 12 μ2 = some (nI v, μ2) from e6 μ2, zb_of rfl, c3, zb_of rfl, if_neg (by decide), show f_L_low (y >>> (2 &&& 31)) 6 μ3 = some (nI c, μ3) from e7 μ3, zb_of rfl, c4, zb_of rfl, if_neg (by decide), pa1]
  exact hag μ4 h4
theorem lw_b167 {L : Nat} {xs : Nat → Int32} {ag : Int32 → Mm → Option Unit} {k n : Nat} (hn : n < 100) (x y : Int32) {μ : Mm} (h : Lw n μ) (hag : ∀ ν : Mm, Lw n ν → ag (nI (k + 1)) ν = some ()) : f_L_law_b167 L xs ag (nI k) x y μ = some () := by
  unfold f_L_law_b167
  split
  · exact lw_b184 hn x y h hag
  · obtain ⟨ν, e, h1⟩ := lw_hangs hn h
    rw [e, zb_of rfl, if_neg (by decide)]
    exact lw_b184 hn x y h1 hag
theorem lw_loop {L : Nat} (hL : L ≤ 260) (xs : Nat → Int32) : ∀ (m k n : Nat) (μ : Mm), k + m = 40 → m < n → Lw k μ → f_L_law_b15 L xs n (nI k) μ = some () := by
  intro m
  induction m with
  | zero =>
    intro k n μ hk hn h
    obtain ⟨n, rfl⟩ : ∃ q, n = q + 1 := ⟨n - 1, by omega⟩
    obtain ⟨ν, e, _⟩ := lw_hangs (by omega) h
    rw [f_L_law_b15, if_pos (show (40 : Int32) ≤ nI k from ple (a := 40) (by omega) (by omega))]
    unfold f_L_law_b293
    rw [e, zb_of rfl, if_neg (by decide)]
  | succ m ih =>
    intro k n μ hk hn h
    obtain ⟨n, rfl⟩ : ∃ q, n = q + 1 := ⟨n - 1, by omega⟩
    obtain ⟨x, ex⟩ := at_ok hL xs (k := 2 * k) (by omega)
    obtain ⟨y, ey⟩ := at_ok hL xs (k := 2 * k + 1) (by omega)
    obtain ⟨⟨s, hd⟩, hI⟩ := id h
    obtain ⟨R, A, hop, hA, hR⟩ := opx_act x y
    obtain ⟨ν, e1, hV, hdν⟩ := hop μ s [] hd (by decide)
    obtain ⟨hr, hIA⟩ := hA k (V μ 0) (by omega) hI
    have hag : ∀ ν : Mm, Lw (k + 1) ν → f_L_law_b15 L xs n (nI (k + 1)) ν = some () := fun ν hν => ih (k + 1) n ν (by omega) (by omega) hν
    have hs := hd.2.1
    have hsu := sU_c hs
    have hc : f_L_count 12 μ = some (nI s, μ) := by rw [← hd.2.2.1]; exact l_cnt (w := 12) (by decide)
    have hcν : f_L_count 12 ν = some (nI (sU s), ν) := by rw [← hdν.2.2.1]; exact l_cnt (w := 12) (by decide)
    have hLν : Lw (k + 1) ν := ⟨⟨_, hdν.nil⟩, by rw [hV]; exact hIA⟩
    have e2k : (2 : Int32) * nI k = nI (2 * k) := by rw [show (2 : Int32) = nI 2 from rfl, pmul]
    have im2 : (-2 : Int32).toInt = -2 := by decide
    have h98 : f_L_law_b98 L xs (f_L_law_b15 L xs n) (nI k) x y (nI s) (qprint (V μ 0)) (R (V μ 0)) (nI (sU s)) (nI (sU s)) ν = some () := by
      unfold f_L_law_b98
      rw [if_pos rfl]
      by_cases h6 : (6 : Int32) ≤ nI s
      · rw [if_pos h6]; exact lw_b167 (by omega) x y hLν hag
      · rw [if_neg h6]
        obtain ⟨w, hw, e3⟩ := low_ok (y >>> (5 &&& 31)) (n := 3) (by decide) (by decide)
        rw [show f_L_low (y >>> (5 &&& 31)) 3 ν = some (nI w, ν) from e3 ν, zb_of rfl]
        by_cases hw0 : nI w = 0
        · have h6s : s < 6 := Classical.byContradiction fun q => h6 (ple (a := 6) (by omega) (by omega))
          obtain ⟨ρ, u1, u2, u3, u4⟩ := back_ok hdν
          rw [show sU s - 1 = s by omega] at u1
          obtain ⟨ξ, a1, a2, a3⟩ := hop ρ _ [] u4 (by decide)
          have eR : R (V ρ 0) = R (V μ 0) := hR _ _ u3
          rw [eR] at a1
          have hIρ : Iv k (V ρ 0) := hI.congr u3
          have hLξ : Lw (k + 1) ξ := ⟨⟨_, a3.nil⟩, by rw [a2]; exact (hA k (V ρ 0) (by omega) hIρ).2⟩
          rw [if_pos hw0, u1, zb_of rfl, if_pos rfl, u2, zb_of rfl, if_pos ((lg_cmp_eq _ _).mpr rfl), a1, zb_of rfl, if_pos rfl]
          exact lw_b167 (by omega) x y hLξ hag
        · rw [if_neg hw0]; exact lw_b167 (by omega) x y hLν hag
    rw [f_L_law_b15, if_neg (show ¬ (40 : Int32) ≤ nI k from pge (b := 40) (by omega) (by omega)), e2k, ex μ, zb_of rfl, pa1, ey μ, zb_of rfl, hc, zb_of rfl, l_print, zb_of rfl, e1, zb_of rfl, if_neg (fun q => by rw [i_le, im2] at q; omega), hcν, zb_of rfl]
    by_cases h6 : (6 : Int32) ≤ nI s
    · have h6s : s = 6 := by
        rcases hsu with q | q
        · exact absurd h6 (pge (b := 6) q.1 (by decide))
        · exact q.1
      have e6 : (6 : Int32) = nI (sU s) := by rw [h6s]; rfl
      rw [if_pos h6]
      rw [show f_L_law_b98 L xs (f_L_law_b15 L xs n) (nI k) x y (nI s) (qprint (V μ 0)) (R (V μ 0)) 6 (nI (sU s)) ν = f_L_law_b98 L xs (f_L_law_b15 L xs n) (nI k) x y (nI s) (qprint (V μ 0)) (R (V μ 0)) (nI (sU s)) (nI (sU s)) ν by rw [← e6]]
      exact h98
    · have h6s : s < 6 := Classical.byContradiction fun q => h6 (ple (a := 6) (by omega) (by omega))
      rw [if_neg h6, pa1]
      rw [show sU s = s + 1 from if_pos h6s] at h98 ⊢
      exact h98
theorem L0 : Lw 0 z_mu0 := by
  have h1 : ∀ t, t < 24 → ((V z_mu0 0 (22 + 7 * t)).toInt = 0 ∧ (V z_mu0 0 (22 + 7 * t + 1)).toInt = 0) ∧ V z_mu0 0 (22 + 7 * t + 4) = -1 := by decide +kernel
  have h2 : ∀ c, c < 6 → (V z_mu0 0 (10 + 2 * c)).toInt = 60 := by decide +kernel
  have h3 : ncuts (V z_mu0 0) = 0 := by decide +kernel
  have h4 : ∀ j, j < 10 → (V z_mu0 0 j).toInt = if j = 0 then 100 else if j = 1 then 100 else if j = 2 then 3 else if j = 7 then 360 else 0 := by decide +kernel
  have h5 : SL (V z_mu0 0) = 360 := by decide +kernel
  refine ⟨⟨0, Or.inl ⟨rfl, rfl⟩, by decide, rfl, Nat.le_refl _, fun i => 3 + i, ⟨fun i hi => ⟨(show 3 ≤ 3 + i ∧ 3 + i < 9 by omega), rfl⟩, fun i j _ _ h => by have h2 : 3 + i = 3 + j := h; omega⟩, fun i x hi => by simp at hi⟩, ?_⟩
  refine ⟨fun t ht => ?_, ?_, ?_, ?_, fun c hc => ?_, ?_, ?_, ?_, ?_, ?_, ?_, ?_⟩
  · obtain ⟨⟨a1, a2⟩, a3⟩ := h1 t ht
    unfold TI
    rw [a1, a2]
    exact ⟨by omega, by omega, fun _ => a3, fun q => by omega⟩
  · rw [h4 0 (by decide)]; decide
  · rw [h4 1 (by decide)]; decide
  · rw [h4 2 (by decide)]; decide
  · rw [h2 c hc]; decide
  · rw [h4 3 (by decide)]; decide
  · rw [h4 4 (by decide)]; decide
  · rw [h3, h4 3 (by decide), h4 4 (by decide)]; decide
  · rw [h4 6 (by decide)]; decide
  · rw [h4 7 (by decide)]; decide
  · rw [h4 8 (by decide)]; decide
  · rw [h5, h4 6 (by decide), h4 7 (by decide), h4 8 (by decide)]; decide
theorem law_pure {L : Nat} (hL : L ≤ 260) (xs : Nat → Int32) : f_L_law_b8 L xs z_mu0 = some () := by
  obtain ⟨ν, e, h⟩ := lw_hangs (by decide) L0
  unfold f_L_law_b8
  rw [e, zb_of rfl, if_pos rfl]
  exact lw_loop hL xs 40 0 z_F ν rfl (by decide) h
