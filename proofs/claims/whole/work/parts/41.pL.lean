/-! PURE: snapshots, undo, the buffer's characters -/
theorem ck_sl {t : Nat} (ht : t < 2) {μ : Mm} : f_X3_checkSlot (nI t) μ = some (.inr (), μ) := by
  unfold f_X3_checkSlot; rw [if_neg (nI_pos (by omega)), if_pos (show nI t < 2 from nI_lt (b := 2) ht (by decide))]
theorem ck_sln {x : Int32} (h : x < 0 ∨ (¬ x < 0 ∧ ¬ x < nI 2)) {μ : Mm} : f_X3_checkSlot x μ = some (.inl "java/lang/IllegalArgumentException", μ) := by
  unfold f_X3_checkSlot
  rcases h with h | h
  · rw [if_pos h]
  · rw [if_neg h.1, if_neg (show ¬ x < 2 from h.2)]
theorem mi_sl {t : Nat} (ht : t < 2) {μ : Mm} : f_X4_isSlot (nI t) μ = some (1, μ) := by
  have : t = 0 ∨ t = 1 := by omega
  rcases this with rfl | rfl <;> rfl
theorem mi_sln {x : Int32} (h : x < 0 ∨ (¬ x < 0 ∧ ¬ x < nI 2)) {μ : Mm} : f_X4_isSlot x μ = some (0, μ) := by
  unfold f_X4_isSlot
  rw [i_lt, i_lt, i_0, nI_toInt (by decide)] at h
  rw [if_neg (show ¬ x = 0 by rw [i_eq, i_0]; omega), if_neg (show ¬ x = 1 by rw [i_eq, i_1]; omega)]
theorem qcuts_congr {a b : Nat → Int32} (h : ∀ j, j < 190 → a j = b j) : qcuts a = qcuts b := lp_congr _ _ _ (fun j h1 h2 x => by rw [qcut_of (h _ (by omega))])
theorem p7 (t : Nat) : (7 : Int32) + nI t = nI (7 + t) := by rw [show (7 : Int32) = nI 7 from rfl, padd]
theorem good_sv2 {μ : Mm} (hJ : J μ) {A D : (Nat → Int32) → Nat → Int32} (hAD : ∀ b, Rel (V μ 0) b → (∀ j, j < 190 → b j = μ 120 j) → (∀ j, 1330 ≤ j → b j = μ 120 j) → Rel (A (V μ 0)) (D b)) (hhi : ∀ (b : Nat → Int32) (j : Nat), 190 ≤ j → D b j = b j) {r : Int32} {clsop modop : Mm → Option (Int32 × Mm)}
    (hc : ∀ μ1 : Mm, (∀ c, c < 30 → μ1 c = μ c) → (∀ c, 91 ≤ c → c ≠ 93 → μ1 c = μ c) → V μ1 0 = V μ 0 → ∃ W : Mm, clsop μ1 = some (r, W) ∧ (∀ j, j < 190 → V W 0 j = A (V μ 0) j) ∧ ∀ c, 10 ≤ c → W c = μ1 c)
    (hm : ∀ ν1 : Mm, Rel (V μ 0) (ν1 120) → (∀ j, j < 190 → ν1 120 j = μ 120 j) → (∀ j, 1330 ≤ j → ν1 120 j = μ 120 j) → ∃ Y : Mm, modop ν1 = some (r, Y) ∧ Y 120 = D (ν1 120) ∧ ∀ c, c ≠ 120 → Y c = ν1 c)
    {o1 o2 : Mm → Option (Int32 × Mm)} (h1 : ∀ μ' : Mm, zb (f_X3_saveState μ) (fun _ m => clsop m) = some (r, μ') → o1 μ = some (0, z_up μ' 125 0 r)) (h2 : ∀ m y : Mm, (∀ c, 91 ≤ c → c ≠ 93 → c ≠ 125 → m c = μ c) → zb (f_X4_saves (g5 m 0)) (fun _ m => modop m) = some (r, y) → o2 m = some (r, y)) : Good2 o1 o2 μ := by
  obtain ⟨μ', e, F, H⟩ := J_sv hJ hAD hhi hc hm
  obtain ⟨y, f, hy, h125, h5⟩ := H (g5 (z_up μ' 125 0 r) 0) (fun c c1 c2 => by rw [g5_n _ _ c1, z_up_n _ _ _ c2]) (by rw [g5_k _ _ (by decide), z_up_n _ _ _ (by decide)]) (by rw [g5_k _ _ (by decide), z_up_n _ _ _ (by decide)])
  refine ⟨0, _, r, y, h1 μ' e, h2 _ y (fun c a b d => by rw [z_up_n _ _ _ d, F c a b]) f, by rw [h5, g5_5], fun _ => ?_, hy⟩
  rw [h125, g5_n _ _ (by decide), z_up_s, upd_s]
theorem L_keep {μ : Mm} (hJ : J μ) (x : Int32) : Good2 (f_L_keep x) (f_X4_keep x) μ := by
  rcases rng x (N := 2) (by decide) with ⟨t, ht, rfl⟩ | hx
  · obtain ⟨m7, e, e1, e2⟩ := c_takeOver μ (k := 10 * (1 + t)) (x := 0) ⟨by omega, by omega⟩ (by decide) (by omega)
    obtain ⟨w, hw⟩ : ∃ w : Int32, w = vp_nar .boolean 1 := ⟨_, rfl⟩
    have hw0 : ¬ w = 0 := by rw [hw]; decide
    obtain ⟨μ', hμ'⟩ : ∃ μ' : Mm, μ' = z_up (z_up m7 92 t w) 125 0 (qcuts (V μ 0)) := ⟨_, rfl⟩
    have hV0 : V (z_up m7 92 t w) 0 = V μ 0 := V_same (fun c hc => by rw [z_up_n _ _ _ (by omega), e2 _ (by omega)])
    have k : ∀ c, c < 10 * (1 + t) ∨ 10 * (1 + t) + 10 ≤ c → c ≠ 92 → c ≠ 125 → μ' c = μ c := fun c h1 h2 h3 => by rw [hμ', z_up_n _ _ _ h3, z_up_n _ _ _ h2, e2 c h1]
    obtain ⟨ν, f, f1, f2, f3⟩ := m_copies (g5 μ' 0) (a := 0) (b := 7 + t) (by omega) (by omega) (by omega)
    have g120 : g5 μ' 0 120 = μ 120 := by rw [g5_n _ _ (by decide), k 120 (by omega) (by decide) (by decide)]
    have kν : ∀ c, c < 10 * (1 + t) ∨ 10 * (1 + t) + 10 ≤ c → c ≠ 92 → c ≠ 119 → c ≠ 120 → c ≠ 125 → ν c = μ c := fun c h1 h2 h3 h4 h5 => by rw [f1 c h4, g5_n _ _ h3, k c h1 h2 h5]
    have k119 : ∀ j, j ≠ 5 → ν 119 j = μ 119 j := fun j hj => by rw [f1 119 (by decide), g5_k _ _ hj, k 119 (by omega) (by decide) (by decide)]
    have lo : ∀ j, j < 190 → ν 120 j = μ 120 j := fun j hj => by rw [f3 j (by omega), g120]
    refine ⟨0, μ', qcuts (V μ 0), z_up ν 121 t w, ?_, ?_, ?_, fun _ => ?_, ?_⟩
    · unfold f_L_keep f_X3_keep
      rw [ck_sl ht, zbx_of rfl]
      simp (disch := omega) only [pzix, pcl, if_true]
      rw [e, zb_of rfl, ← hw, c_cuts, zb_of rfl, hV0, hμ']; rfl
    · unfold f_X4_keep
      rw [mi_sl ht, zb_of rfl, m_go11, zb_of rfl, if_neg (by decide), p7, show f_X4_copies 0 (nI (7 + t)) (g5 μ' 0) = some ((), ν) from f, zb_of rfl]
      simp (disch := omega) only [pzix, pcl, if_true]
      rw [← hw, m_cuts, zb_of rfl, z_up_n _ _ _ (by decide), qcuts_congr lo, ← hJ.1.1.cuts]
    · rw [z_up_n _ _ _ (by decide), f1 119 (by decide), g5_5]
    · rw [z_up_n _ _ _ (by decide), f1 125 (by decide), g5_n _ _ (by decide), hμ', z_up_s, upd_s]
    · obtain ⟨hR, ⟨p, s, hp, hs, h90, hm, hsv⟩, hK, ⟨n, hn, ht1, ht2, ht3⟩, hB⟩ := hJ
      have ky : ∀ c, c < 10 * (1 + t) ∨ 10 * (1 + t) + 10 ≤ c → c ≠ 92 → c ≠ 119 → c ≠ 120 → c ≠ 121 → c ≠ 125 → (z_up ν 121 t w) c = μ c := fun c h1 h2 h3 h4 h5 h6 => by rw [z_up_n _ _ _ h5, kν c h1 h2 h3 h4 h6]
      have y120 : (z_up ν 121 t w) 120 = ν 120 := z_up_n _ _ _ (by decide)
      have hVb : ∀ b, b % 10 = 0 → b < 90 → b ≠ 10 * (1 + t) → V (z_up ν 121 t w) b = V μ b := fun b hb hb2 hb3 => V_same (fun c hc => ky _ (by omega) (by omega) (by omega) (by omega) (by omega) (by omega))
      refine ⟨?_, ⟨p, s, ⟨fun i hi => ⟨(hp.1 i hi).1, ?_⟩, hp.2⟩, hs, ?_, ?_, fun i hi => ?_⟩, fun q hq => ?_, ⟨n, hn, ?_, ?_, fun j hj => ?_⟩, ?_⟩
      · rw [hVb 0 (by decide) (by decide) (by omega), y120]
        exact hR.congr (fun _ _ => rfl) lo
      · rw [ky 93 (by omega) (by decide) (by decide) (by decide) (by decide) (by decide)]; exact (hp.1 i hi).2
      · rw [ky 90 (by omega) (by decide) (by decide) (by decide) (by decide) (by decide)]; exact h90
      · rw [z_up_n _ _ _ (by decide), k119 1 (by decide)]; exact hm
      · have hb := (hp.1 i (by omega)).1
        rw [hVb _ (by omega) (by omega) (by omega), y120]
        exact (hsv i hi).congr (fun _ _ => rfl) (fun j hj => by show ν 120 _ = _; rw [f3 _ (by omega), g120])
      · have e92 : (z_up ν 121 t w) 92 q = upd (μ 92) t w q := by
          rw [z_up_n _ _ _ (by decide), f1 92 (by decide), g5_n _ _ (by decide), hμ', z_up_n _ _ _ (by decide), z_up_s, e2 92 (by omega)]
        have e121 : (z_up ν 121 t w) 121 q = upd (μ 121) t w q := by
          rw [z_up_s, f1 121 (by decide), g5_n _ _ (by decide), k 121 (by omega) (by decide) (by decide)]
        rw [e92, e121]
        by_cases hqt : q = t
        · subst hqt
          rw [upd_s, upd_s]
          refine ⟨rfl, fun _ => hR.congr (fun j hj => ?_) (fun j hj => ?_)⟩
          · rw [← e1 j hj]
            exact congrFun (V_same (fun c hc => by rw [z_up_n _ _ _ (by omega), f1 _ (by omega), g5_n _ _ (by omega), hμ', z_up_n _ _ _ (by omega), z_up_n _ _ _ (by omega)])) j
          · show (z_up ν 121 q w) 120 _ = _
            rw [y120, f2 j hj, g120]; exact congrArg _ (by omega)
        · rw [upd_n hqt, upd_n hqt]
          refine ⟨(hK q hq).1, fun h => ((hK q hq).2 h).congr (fun j hj => ?_) (fun j hj => ?_)⟩
          · rw [hVb _ (by omega) (by omega) (by omega)]
          · show (z_up ν 121 t w) 120 _ = _
            rw [y120, f3 _ (by omega), g120]
      · rw [ky 94 (by omega) (by decide) (by decide) (by decide) (by decide) (by decide)]; exact ht1
      · rw [z_up_n _ _ _ (by decide), k119 4 (by decide)]; exact ht2
      · rw [ky 95 (by omega) (by decide) (by decide) (by decide) (by decide) (by decide), ky 122 (by omega) (by decide) (by decide) (by decide) (by decide) (by decide)]; exact ht3 j hj
      · unfold JB; rw [ky 96 (by omega) (by decide) (by decide) (by decide) (by decide) (by decide)]; exact hB
  · refine good_err hJ (k := 1) (b := 0) ?_ ?_ (by decide)
    · unfold f_L_keep f_X3_keep
      rw [ck_sln hx, zbx_ofl rfl]; rfl
    · unfold f_X4_keep
      rw [mi_sln hx, zb_of rfl, m_go0, zb_of rfl, if_pos rfl]
theorem L_goBack {μ : Mm} (hJ : J μ) (x : Int32) : Good2 (f_L_goBack x) (f_X4_goBack x) μ := by
  rcases rng x (N := 2) (by decide) with ⟨t, ht, rfl⟩ | hx
  · have hK := hJ.2.2.1 t ht
    by_cases h0 : μ 92 t = 0
    · refine good_err hJ (k := 2) (b := 0) ?_ ?_ (by decide)
      · unfold f_L_goBack f_X3_goBack
        rw [ck_sl ht, zbx_of rfl]
        simp (disch := omega) only [pzix, pcl, if_true, h0]
        rfl
      · unfold f_X4_goBack f_X4_goBack_b26
        rw [mi_sl ht, zb_of rfl, mi_sl ht, zb_of rfl, if_neg (by decide)]
        simp (disch := omega) only [pzix, pcl, if_true, ← hK.1, h0]
        rw [m_go10, zb_of rfl, if_pos rfl]
    · have hS := hK.2 h0
      refine good_sv2 hJ (A := fun _ => V μ (10 * (1 + t))) (D := fun b j => if j < 190 then μ 120 (190 * (7 + t) + j) else b j) (fun b _ _ _ => hS.congr (fun _ _ => rfl) (fun j hj => if_pos hj)) (fun b j hj => if_neg (by omega)) (r := qcuts (V μ (10 * (1 + t))))
        (clsop := fun m => zb (f_X2_takeOver 0 (10 * (1 + t)) m) (fun _ m11 => zb (f_X2_cutTracks m11) (fun r m => some (r, m)))) (modop := fun m => zb (f_X4_copies (7 + nI t) 0 m) (fun _ m16 => zb (f_X4_cuts m16) (fun r m => some (r, m))))
        (fun μ1 q1 _ _ => ?_) (fun ν1 _ _ q3 => ?_) (fun μ' h => ?_) (fun m y hF h => ?_)
      · obtain ⟨W, e, e1, e2⟩ := c_takeOver μ1 (k := 0) (x := 10 * (1 + t)) (by decide) ⟨by omega, by omega⟩ (by omega)
        have hV : V μ1 (10 * (1 + t)) = V μ (10 * (1 + t)) := V_same (fun c hc => q1 _ (by omega))
        refine ⟨W, ?_, fun j hj => by rw [e1 j hj, hV], fun c hc => e2 c (by omega)⟩
        show zb (f_X2_takeOver 0 (10 * (1 + t)) μ1) _ = _
        rw [e, zb_of rfl, c_cuts, zb_of rfl, qcuts_congr (fun j hj => by rw [e1 j hj, hV])]
      · obtain ⟨Y, f, f1, f2, f3⟩ := m_copies ν1 (a := 7 + t) (b := 0) (by omega) (by omega) (by omega)
        have hY : ∀ j, j < 190 → Y 120 j = μ 120 (190 * (7 + t) + j) := fun j hj => by
          have := f2 j hj
          rw [q3 _ (by omega), show 190 * 0 + j = j by omega] at this
          exact this
        refine ⟨Y, ?_, funext fun j => ?_, f1⟩
        · show zb (f_X4_copies (7 + nI t) 0 ν1) _ = _
          rw [p7, show f_X4_copies (nI (7 + t)) 0 ν1 = some ((), Y) from f, zb_of rfl, m_cuts, zb_of rfl, qcuts_congr hY, hS.1.cuts]
        · by_cases hj : j < 190
          · rw [hY j hj]; exact (if_pos hj).symm
          · rw [f3 j (by omega)]; exact (if_neg hj).symm
      · unfold f_L_goBack f_X3_goBack
        rw [ck_sl ht, zbx_of rfl]
        simp (disch := omega) only [pzix, pcl, if_true]
        rw [if_neg h0]
        obtain ⟨a, m, e1, e2⟩ := zb_some h
        rw [e1, zb_of rfl]
        obtain ⟨a2, m2, e3, e4⟩ := zb_some e2
        rw [e3, zb_of rfl]
        obtain ⟨a3, m3, e5, e6⟩ := zb_some e4
        cases e6
        rw [e5, zb_of rfl]; rfl
      · unfold f_X4_goBack f_X4_goBack_b26
        rw [mi_sl ht, zb_of rfl, mi_sl ht, zb_of rfl, if_neg (by decide)]
        simp (disch := omega) only [pzix, pcl, if_true, hF 121 (by decide) (by decide) (by decide), ← hK.1]
        rw [if_neg h0, m_go11, zb_of rfl, if_neg (by decide)]
        obtain ⟨a, m1, e1, e2⟩ := zb_some h
        rw [e1, zb_of rfl]
        obtain ⟨a2, m2, e3, e4⟩ := zb_some e2
        rw [e3, zb_of rfl]
        obtain ⟨a3, m3, e5, e6⟩ := zb_some e4
        cases e6
        rw [e5, zb_of rfl]
  · refine good_err hJ (k := 1) (b := 0) ?_ ?_ (by decide)
    · unfold f_L_goBack f_X3_goBack
      rw [ck_sln hx, zbx_ofl rfl]; rfl
    · unfold f_X4_goBack f_X4_goBack_b26
      rw [mi_sln hx, zb_of rfl, mi_sln hx, zb_of rfl, if_pos rfl, m_go0, zb_of rfl, if_pos rfl]
