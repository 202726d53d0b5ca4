/-! PURE: the other calls that save -/
theorem L_copy {μ : Mm} (hJ : J μ) (x y l : Int32) : Good2 (f_L_copy x y l) (f_X4_copy x y l) μ := by
  rcases trk x with ⟨f, hf, rfl⟩ | hx
  · rcases trk y with ⟨t, ht, rfl⟩ | hy
    · by_cases hl : 1 ≤ l ∧ l ≤ 3
      · refine good_sv hJ (A := fun a => acopy a f t l) (D := fun b => dcopy b f t l) (fun b hb _ _ => hb.copy hf ht hl.1) (fun b j hj => hi_copy b f ht l hj) (r := qcr (V μ 0) f t l) (clsop := f_X2_copyOnto (nI f) (nI t) l) (modop := f_X4_makes (nI f) (nI t) l)
          (fun μ1 _ _ hV => ⟨_, by rw [c_copy hf ht l hl.1, hV], fun j _ => by rw [V_copy, hV], fun c hc => fr_copy _ _ _ _ hc⟩) (fun ν1 hR _ _ => ⟨_, by rw [m_copy hf ht l hl.1, ← hR.1.cr hf ht], M_copy _ _ _ _, fun c hc => mf_copy _ _ _ _ hc⟩) (fun μ' h => ?_) (fun m y h => ?_)
        · unfold f_L_copy f_X3_copy
          rw [ck_tr hf, zbx_of rfl, ck_tr ht, zbx_of rfl, ck_lv, if_pos hl, zbx_of rfl, zb_inr h]; rfl
        · unfold f_X4_copy f_X4_copy_b20
          rw [mi_tr hf, zb_of rfl, if_neg (by decide), mi_tr ht, zb_of rfl, if_neg (by decide), m_in, if_pos hl, zb_of rfl, m_go11, zb_of rfl, if_neg (by decide), zb_id h]
      · refine good_err hJ (k := 2) (b := 0) ?_ ?_ (by decide)
        · unfold f_L_copy f_X3_copy
          rw [ck_tr hf, zbx_of rfl, ck_tr ht, zbx_of rfl, ck_lv, if_neg hl, zbx_ofl rfl]; rfl
        · unfold f_X4_copy f_X4_copy_b20
          rw [mi_tr hf, zb_of rfl, if_neg (by decide), mi_tr ht, zb_of rfl, if_neg (by decide), m_in, if_neg hl, zb_of rfl, m_go10, zb_of rfl, if_pos rfl]
    · refine good_err hJ (k := 1) (b := 0) ?_ ?_ (by decide)
      · unfold f_L_copy f_X3_copy
        rw [ck_tr hf, zbx_of rfl, ck_trn hy, zbx_ofl rfl]; rfl
      · unfold f_X4_copy f_X4_copy_b20
        rw [mi_tr hf, zb_of rfl, if_neg (by decide), mi_trn hy, zb_of rfl, if_pos rfl, m_in, zb_of rfl, m_go0, zb_of rfl, if_pos rfl]
  · refine good_err hJ (k := 1) (b := 0) ?_ ?_ (by decide)
    · unfold f_L_copy f_X3_copy
      rw [ck_trn hx, zbx_ofl rfl]; rfl
    · unfold f_X4_copy f_X4_copy_b20
      rw [mi_trn hx, zb_of rfl, if_pos rfl, m_in, zb_of rfl, m_go0, zb_of rfl, if_pos rfl]
theorem L_play {μ : Mm} (hJ : J μ) (x : Int32) : Good2 (f_L_play x) (f_X4_play x) μ := by
  rcases trk x with ⟨t, ht, rfl⟩ | hx
  · refine good_sv hJ (A := fun a => aplay a t) (D := fun b => aplay b t) (fun b hb _ _ => hb.play ht) (fun b j hj => hi_play b ht hj) (r := qplay (V μ 0) t) (clsop := f_X2_playTrack (nI t)) (modop := f_X4_plays (nI t))
        (fun μ1 _ _ hV => ⟨_, by rw [c_play ht, hV], fun j _ => by rw [V_play, hV], fun c hc => fr_play _ _ hc⟩) (fun ν1 hR _ _ => ⟨_, by rw [m_play ht, ← hR.1.play ht], M_play _ _, fun c hc => mf_play _ _ hc⟩) (fun μ' h => ?_) (fun m y h => ?_)
    · unfold f_L_play f_X3_play
      rw [ck_tr ht, zbx_of rfl, zb_inr h]; rfl
    · unfold f_X4_play
      rw [mi_tr ht, zb_of rfl, m_go11, zb_of rfl, if_neg (by decide), zb_id h]
  · refine good_err hJ (k := 1) (b := 0) ?_ ?_ (by decide)
    · unfold f_L_play f_X3_play
      rw [ck_trn hx, zbx_ofl rfl]; rfl
    · unfold f_X4_play
      rw [mi_trn hx, zb_of rfl, m_go0, zb_of rfl, if_pos rfl]
theorem L_shave {μ : Mm} (hJ : J μ) (x : Int32) : Good2 (f_L_shave x) (f_X4_shave x) μ := by
  rcases cyl x with ⟨t, ht, rfl⟩ | hx
  · refine good_sv hJ (A := fun a => ashave a t) (D := fun b => dshave b t) (fun b hb _ _ => hb.shave ht) (fun b j hj => hi_shave b ht hj) (r := qshave (V μ 0) t) (clsop := f_X2_shaveCylinder (nI t)) (modop := f_X4_shaves (nI t))
        (fun μ1 _ _ hV => ⟨_, by rw [c_shave ht, hV], fun j _ => by rw [V_shave _ ht, hV], fun c hc => fr_shave _ _ hc⟩) (fun ν1 hR _ _ => ⟨_, by rw [m_shave ht, ← hR.1.shave ht], M_shave _ ht, fun c hc => mf_shave _ _ hc⟩) (fun μ' h => ?_) (fun m y h => ?_)
    · unfold f_L_shave f_X3_shave
      rw [ck_cy ht, zbx_of rfl, zb_inr h]; rfl
    · unfold f_X4_shave
      rw [mi_cy ht, zb_of rfl, m_go11, zb_of rfl, if_neg (by decide), zb_id h]
  · refine good_err hJ (k := 1) (b := 0) ?_ ?_ (by decide)
    · unfold f_L_shave f_X3_shave
      rw [ck_cyn hx, zbx_ofl rfl]; rfl
    · unfold f_X4_shave
      rw [mi_cyn hx, zb_of rfl, m_go0, zb_of rfl, if_pos rfl]
theorem two (x hi : Int32) {α : Type} (a b : α) : (if x < 0 then a else if x ≤ hi then b else a) = if 0 ≤ x ∧ x ≤ hi then b else a := by
  by_cases h1 : x < 0
  · rw [if_pos h1, if_neg (fun q => by have := q.1; rw [i_le] at this; rw [i_lt] at h1; omega)]
  · rw [if_neg h1]
    by_cases h2 : x ≤ hi
    · rw [if_pos h2, if_pos ⟨by rw [i_lt] at h1; rw [i_le]; omega, h2⟩]
    · rw [if_neg h2, if_neg (fun q => h2 q.2)]
theorem m_renew {μ : Mm} {c : Nat} (hc : c < 6) (x : Int32) : (if z_ix (10 + (2 * nI c)) 1710 then if z_ix ((10 + (2 * nI c)) + 1) 1710 then zm (z_up (z_up μ (120) (((10 + (2 * nI c))).toNatClampNeg) x) (120) ((((10 + (2 * nI c)) + 1)).toNatClampNeg) 0) (fun m16 => zm (z_up (z_up m16 (120) 7 ((m16 (120) 7) + x)) (120) 8 (((z_up m16 (120) 7 ((m16 (120) 7) + x)) (120) 8) + (μ (120) (((10 + (2 * nI c))).toNatClampNeg)))) (fun m18 => zb (f_X4_smooths (nI c) m18) (fun r20 m21 => some ((μ (120) (((10 + (2 * nI c))).toNatClampNeg)), m21)))) else none else none) = some (μ 120 (10 + 2 * c), v_renew μ c x) := by
  unfold v_renew
  simp (disch := omega) only [m_sm, p10, pa1, zb, zm, pzix, pcl, if_true, z_up_s, z_up_n, upd_s, upd_n]
theorem L_renew {μ : Mm} (hJ : J μ) (x l : Int32) : Good2 (f_L_renew x l) (f_X4_renew x l) μ := by
  rcases cyl x with ⟨t, ht, rfl⟩ | hx
  · by_cases hl : 0 ≤ l ∧ l ≤ 100
    · refine good_sv hJ (A := fun a => b_sm (arn a t l) t) (D := fun b => d_sm (arn b t l) t) (fun b hb _ _ => hb.renew ht l) (fun b j hj => hi_renew b ht l hj) (r := V μ 0 (10 + 2 * t)) (clsop := f_X2_renewCylinder (nI t) l)
        (modop := fun m12 => if z_ix (10 + (2 * nI t)) 1710 then if z_ix ((10 + (2 * nI t)) + 1) 1710 then zm (z_up (z_up m12 (120) (((10 + (2 * nI t))).toNatClampNeg) l) (120) ((((10 + (2 * nI t)) + 1)).toNatClampNeg) 0) (fun m16 => zm (z_up (z_up m16 (120) 7 ((m16 (120) 7) + l)) (120) 8 (((z_up m16 (120) 7 ((m16 (120) 7) + l)) (120) 8) + (m12 (120) (((10 + (2 * nI t))).toNatClampNeg)))) (fun m18 => zb (f_X4_smooths (nI t) m18) (fun r20 m21 => some ((m12 (120) (((10 + (2 * nI t))).toNatClampNeg)), m21)))) else none else none)
        (fun μ1 _ _ hV => ⟨_, by rw [c_renew ht, ← hV, V_ly _ _ _ ht], fun j _ => by rw [V_renew _ ht, hV], fun c hc => fr_renew _ _ _ hc⟩) (fun ν1 hR _ _ => ⟨_, by rw [m_renew ht, ← hR.1.st (show 10 + 2 * t < 22 by omega)], M_renew _ ht _, fun c hc => mf_renew _ _ _ hc⟩) (fun μ' h => ?_) (fun m y h => ?_)
      · unfold f_L_renew f_X3_renew
        rw [ck_cy ht, zbx_of rfl, two, if_pos hl, zb_inr h]; rfl
      · unfold f_X4_renew
        rw [mi_cy ht, zb_of rfl, m_in, if_pos hl, zb_of rfl, m_go11, zb_of rfl, if_neg (by decide)]; exact h
    · refine good_err hJ (k := 2) (b := 0) ?_ ?_ (by decide)
      · unfold f_L_renew f_X3_renew
        rw [ck_cy ht, zbx_of rfl, two, if_neg hl]; rfl
      · unfold f_X4_renew
        rw [mi_cy ht, zb_of rfl, m_in, if_neg hl, zb_of rfl, m_go10, zb_of rfl, if_pos rfl]
  · refine good_err hJ (k := 1) (b := 0) ?_ ?_ (by decide)
    · unfold f_L_renew f_X3_renew
      rw [ck_cyn hx, zbx_ofl rfl]; rfl
    · unfold f_X4_renew
      rw [mi_cyn hx, zb_of rfl, m_in, zb_of rfl, m_go0, zb_of rfl, if_pos rfl]
theorem L_set {μ : Mm} (hJ : J μ) (l : Int32) : Good2 (f_L_set l) (f_X4_set l) μ := by
  by_cases hl : 0 ≤ l ∧ l ≤ 20
  · have hb : 0 ≤ l.toInt ∧ l.toInt ≤ 20 := by have := hl; rw [i_le, i_le, i_0, i_20] at this; exact this
    refine good_sv hJ (A := fun a => upd a 2 l) (D := fun b => upd b 2 l) (fun b hR _ _ => hR.set (by decide) (fun q => by omega) (fun _ => hb)) (fun b j hj => upd_n (by omega)) (r := V μ 0 2) (clsop := fun m => some (m 0 11, z_up m 0 11 l)) (modop := fun m => some (m 120 2, z_up m 120 2 l))
      (fun μ1 _ _ hV => ⟨_, by rw [← hV]; rfl, fun j _ => by rw [V_u0_11, hV], fun c hc => z_up_n _ _ _ (by omega)⟩) (fun ν1 hR _ _ => ⟨_, by rw [hR.1.st (show 2 < 22 by decide)], by rw [z_up_s], fun c hc => z_up_n _ _ _ hc⟩) (fun μ' h => ?_) (fun m y h => ?_)
    · unfold f_L_set f_X3_set
      rw [two, if_pos hl]
      obtain ⟨a, m, e1, e2⟩ := zb_some h
      rw [e1, zb_of rfl]
      have e3 := Option.some.inj e2
      rw [show μ' = z_up m 0 11 l from (congrArg Prod.snd e3).symm, show V μ 0 2 = m 0 11 from (congrArg Prod.fst e3).symm]
      rfl
    · unfold f_X4_set
      rw [m_in, if_pos hl, zb_of rfl, m_go11, zb_of rfl, if_neg (by decide)]; exact h
  · refine good_err hJ (k := 1) (b := 0) ?_ ?_ (by decide)
    · unfold f_L_set f_X3_set
      rw [two, if_neg hl]; rfl
    · unfold f_X4_set
      rw [m_in, if_neg hl, zb_of rfl, m_go0, zb_of rfl, if_pos rfl]
/-- a call without a throw that saves -/
theorem good1_sv {μ : Mm} (hJ : J μ) {A D : (Nat → Int32) → Nat → Int32} (hAD : ∀ b, Rel (V μ 0) b → (∀ j, j < 190 → b j = μ 120 j) → (∀ j, 1330 ≤ j → b j = μ 120 j) → Rel (A (V μ 0)) (D b)) (hhi : ∀ (b : Nat → Int32) (j : Nat), 190 ≤ j → D b j = b j) {r : Int32} {clsop modop : Mm → Option (Int32 × Mm)}
    (hc : ∀ μ1 : Mm, (∀ c, c < 30 → μ1 c = μ c) → (∀ c, 91 ≤ c → c ≠ 93 → μ1 c = μ c) → V μ1 0 = V μ 0 → ∃ W : Mm, clsop μ1 = some (r, W) ∧ (∀ j, j < 190 → V W 0 j = A (V μ 0) j) ∧ ∀ c, 10 ≤ c → W c = μ1 c)
    (hm : ∀ ν1 : Mm, Rel (V μ 0) (ν1 120) → (∀ j, j < 190 → ν1 120 j = μ 120 j) → (∀ j, 1330 ≤ j → ν1 120 j = μ 120 j) → ∃ Y : Mm, modop ν1 = some (r, Y) ∧ Y 120 = D (ν1 120) ∧ ∀ c, c ≠ 120 → Y c = ν1 c)
    {o1 o2 : Mm → Option (Int32 × Mm)} (h1 : ∀ μ' : Mm, zb (f_X3_saveState μ) (fun _ m => clsop m) = some (r, μ') → o1 μ = some (r, μ')) (h2 : ∀ m y : Mm, zb (f_X4_saves (g5 m 0)) (fun _ m => modop m) = some (r, y) → o2 m = some (r, y)) : Good1 o1 o2 μ := by
  obtain ⟨μ', e, _, H⟩ := J_sv hJ hAD hhi hc hm
  obtain ⟨y, f, hy, h125, h5⟩ := H (g5 μ' 0) (fun c c1 c2 => by rw [g5_n _ _ c1]) (by rw [g5_k _ _ (by decide)]) (by rw [g5_k _ _ (by decide)])
  exact ⟨r, μ', y, h1 μ' e, h2 _ y f, hy⟩
theorem L_wind {μ : Mm} (hJ : J μ) : Good1 f_X3_wind f_X4_wind μ := by
  refine good1_sv hJ (A := fun a => upd a 1 100) (D := fun b => upd b 1 100) (fun b hR _ _ => hR.set (by decide) (fun q => by decide) (fun q => by omega)) (fun b j hj => upd_n (by omega)) (r := 100 - V μ 0 1) (clsop := f_X2_windUp) (modop := f_X4_fillsUp 1)
      (fun μ1 _ _ hV => ⟨_, by rw [← hV]; rfl, fun j _ => by rw [V_u0_10, hV], fun c hc => z_up_n _ _ _ (by omega)⟩) (fun ν1 hR _ _ => ⟨z_up ν1 120 1 100, by rw [hR.1.st (show 1 < 22 by decide)]; rfl, by rw [z_up_s], fun c hc => z_up_n _ _ _ hc⟩) (fun μ' h => ?_) (fun m y h => ?_)
  · unfold f_X3_wind; rw [zb_id h]
  · unfold f_X4_wind; exact zb_id h
theorem L_sharpen {μ : Mm} (hJ : J μ) : Good1 f_X3_sharpen f_X4_sharpen μ := by
  refine good1_sv hJ (A := fun a => upd a 0 100) (D := fun b => upd b 0 100) (fun b hR _ _ => hR.set (by decide) (fun q => by decide) (fun q => by omega)) (fun b j hj => upd_n (by omega)) (r := 100 - V μ 0 0) (clsop := f_X2_sharpenPoint) (modop := f_X4_fillsUp 0)
      (fun μ1 _ _ hV => ⟨_, by rw [← hV]; rfl, fun j _ => by rw [V_u0_9, hV], fun c hc => z_up_n _ _ _ (by omega)⟩) (fun ν1 hR _ _ => ⟨z_up ν1 120 0 100, by rw [hR.1.st (show 0 < 22 by decide)]; rfl, by rw [z_up_s], fun c hc => z_up_n _ _ _ hc⟩) (fun μ' h => ?_) (fun m y h => ?_)
  · unfold f_X3_sharpen; rw [zb_id h]
  · unfold f_X4_sharpen; exact zb_id h
/-! PURE: looks -/
theorem good_look {μ : Mm} (hJ : J μ) {r : Int32} {o1 o2 : Mm → Option (Int32 × Mm)} (h1 : o1 μ = some (0, z_up μ 125 0 r)) (h2 : ∀ m : Mm, m 120 = μ 120 → m 119 1 = μ 119 1 → m 119 4 = μ 119 4 → m 122 = μ 122 → m 121 = μ 121 → o2 m = some (r, g5 m 0)) : Good2 o1 o2 μ := by
  have e := h2 (z_up μ 125 0 r) (z_up_n _ _ _ (by decide)) (by rw [z_up_n _ _ _ (by decide)]) (by rw [z_up_n _ _ _ (by decide)]) (z_up_n _ _ _ (by decide)) (z_up_n _ _ _ (by decide))
  refine ⟨0, _, r, _, h1, e, g5_5 _ _, fun _ => by rw [g5_n _ _ (by decide), z_up_s, upd_s], ?_⟩
  exact hJ.scr (fun c c1 c2 _ _ _ => by rw [g5_n _ _ c1, z_up_n _ _ _ c2]) (by rw [g5_k _ _ (by decide), z_up_n _ _ _ (by decide)]) (by rw [g5_k _ _ (by decide), z_up_n _ _ _ (by decide)])
theorem good1_look {μ : Mm} (hJ : J μ) {r : Int32} {o1 o2 : Mm → Option (Int32 × Mm)} (h1 : o1 μ = some (r, μ)) (h2 : o2 μ = some (r, g5 μ 0)) : Good1 o1 o2 μ := ⟨r, μ, _, h1, h2, hJ.g5 0⟩
theorem rng (x : Int32) {N : Nat} (hN : N < 2 ^ 31) : (∃ t : Nat, t < N ∧ x = nI t) ∨ (x < 0 ∨ (¬ x < 0 ∧ ¬ x < nI N)) := by
  rcases pcase x with h | ⟨t, ht, rfl⟩
  · exact Or.inr (Or.inl h)
  · by_cases h : t < N
    · exact Or.inl ⟨t, h, rfl⟩
    · exact Or.inr (Or.inr ⟨nI_pos ht, nI_nlt (by omega) ht⟩)
theorem ck_wh {t N : Nat} (ht : t < N) (hN : N < 2 ^ 31) {μ : Mm} : f_X3_checkWhat (nI t) (nI N) μ = some (.inr (), μ) := by
  unfold f_X3_checkWhat; rw [if_neg (nI_pos (by omega)), if_pos (nI_lt ht hN)]
theorem ck_whn {x : Int32} {N : Nat} (h : x < 0 ∨ (¬ x < 0 ∧ ¬ x < nI N)) {μ : Mm} : f_X3_checkWhat x (nI N) μ = some (.inl "java/lang/IllegalArgumentException", μ) := by
  unfold f_X3_checkWhat
  rcases h with h | h
  · rw [if_pos h]
  · rw [if_neg h.1, if_neg h.2]
theorem mi_wh {t N : Nat} (ht : t < N) (hN : N < 2 ^ 31) {μ : Mm} : f_X4_in (nI t) 0 (nI (N - 1)) μ = some (1, μ) := by
  rw [m_in, if_pos ⟨nI_pos' (by omega), nI_le (by omega) (by omega)⟩]
theorem mi_whn {x : Int32} {N : Nat} (h0 : 0 < N) (hN : N < 2 ^ 31) (h : x < 0 ∨ (¬ x < 0 ∧ ¬ x < nI N)) {μ : Mm} : f_X4_in x 0 (nI (N - 1)) μ = some (0, μ) := by
  rw [m_in, if_neg]
  intro q
  rw [i_le, i_le, i_0, nI_toInt (by omega)] at q
  rw [i_lt, i_lt, i_0, nI_toInt hN] at h
  omega
theorem L_trackOf {μ : Mm} (hJ : J μ) (x w : Int32) : Good2 (f_L_trackOf x w) (f_X4_trackOf x w) μ := by
  rcases trk x with ⟨t, ht, rfl⟩ | hx
  · rcases rng w (N := 7) (by decide) with ⟨w, hw, rfl⟩ | hw
    · refine good_look hJ (r := qtp (V μ 0) t w) ?_ (fun m h _ _ _ _ => ?_)
      · unfold f_L_trackOf f_X3_trackOf
        rw [ck_tr ht, zbx_of rfl, show (7 : Int32) = nI 7 from rfl, ck_wh hw (by decide), zbx_of rfl, c_tp ht w hw, zb_of rfl]; rfl
      · unfold f_X4_trackOf
        rw [mi_tr ht, zb_of rfl, show (6 : Int32) = nI (7 - 1) from rfl, mi_wh hw (by decide), zb_of rfl, m_go11, zb_of rfl, if_neg (by decide), m_tp ht w hw, zb_of rfl, g5_n _ _ (by decide), h, ← hJ.1.1.tp ht hw]
    · refine good_err hJ (k := 2) (b := 0) ?_ ?_ (by decide)
      · unfold f_L_trackOf f_X3_trackOf
        rw [ck_tr ht, zbx_of rfl, show (7 : Int32) = nI 7 from rfl, ck_whn hw, zbx_ofl rfl]; rfl
      · unfold f_X4_trackOf
        rw [mi_tr ht, zb_of rfl, show (6 : Int32) = nI (7 - 1) from rfl, mi_whn (by decide) (by decide) hw, zb_of rfl, m_go10, zb_of rfl, if_pos rfl]
  · refine good_err hJ (k := 1) (b := 0) ?_ ?_ (by decide)
    · unfold f_L_trackOf f_X3_trackOf
      rw [ck_trn hx, zbx_ofl rfl]; rfl
    · unfold f_X4_trackOf
      rw [mi_trn hx, zb_of rfl, m_in, zb_of rfl, m_go0, zb_of rfl, if_pos rfl]
theorem L_cylinderOf {μ : Mm} (hJ : J μ) (x w : Int32) : Good2 (f_L_cylinderOf x w) (f_X4_cylinderOf x w) μ := by
  rcases cyl x with ⟨t, ht, rfl⟩ | hx
  · rcases rng w (N := 5) (by decide) with ⟨w, hw, rfl⟩ | hw
    · refine good_look hJ (r := qcp (V μ 0) t w) ?_ (fun m h _ _ _ _ => ?_)
      · unfold f_L_cylinderOf f_X3_cylinderOf
        rw [ck_cy ht, zbx_of rfl, show (5 : Int32) = nI 5 from rfl, ck_wh hw (by decide), zbx_of rfl, c_cp ht hw, zb_of rfl]; rfl
      · unfold f_X4_cylinderOf
        rw [mi_cy ht, zb_of rfl, show (4 : Int32) = nI (5 - 1) from rfl, mi_wh hw (by decide), zb_of rfl, m_go11, zb_of rfl, if_neg (by decide), m_cp ht hw, zb_of rfl, g5_n _ _ (by decide), h, ← hJ.1.1.cp ht]
    · refine good_err hJ (k := 2) (b := 0) ?_ ?_ (by decide)
      · unfold f_L_cylinderOf f_X3_cylinderOf
        rw [ck_cy ht, zbx_of rfl, show (5 : Int32) = nI 5 from rfl, ck_whn hw, zbx_ofl rfl]; rfl
      · unfold f_X4_cylinderOf
        rw [mi_cy ht, zb_of rfl, show (4 : Int32) = nI (5 - 1) from rfl, mi_whn (by decide) (by decide) hw, zb_of rfl, m_go10, zb_of rfl, if_pos rfl]
  · refine good_err hJ (k := 1) (b := 0) ?_ ?_ (by decide)
    · unfold f_L_cylinderOf f_X3_cylinderOf
      rw [ck_cyn hx, zbx_ofl rfl]; rfl
    · unfold f_X4_cylinderOf
      rw [mi_cyn hx, zb_of rfl, m_in, zb_of rfl, m_go0, zb_of rfl, if_pos rfl]
theorem L_whyNot {μ : Mm} (hJ : J μ) (x l : Int32) : Good2 (f_L_whyNot x l) (f_X4_whyNot x l) μ := by
  rcases trk x with ⟨t, ht, rfl⟩ | hx
  · by_cases hl : 1 ≤ l ∧ l ≤ 9
    · refine good_look hJ (r := qsr (V μ 0) t l) ?_ (fun m h _ _ _ _ => ?_)
      · unfold f_L_whyNot f_X3_whyNot
        rw [ck_tr ht, zbx_of rfl, ck_ld, if_pos hl, zbx_of rfl, c_sr ht, zb_of rfl]; rfl
      · unfold f_X4_whyNot
        rw [mi_tr ht, zb_of rfl, m_in, if_pos hl, zb_of rfl, m_go11, zb_of rfl, if_neg (by decide), m_sr ht, zb_of rfl, g5_n _ _ (by decide), h, ← hJ.1.1.sr ht]
    · refine good_err hJ (k := 2) (b := 0) ?_ ?_ (by decide)
      · unfold f_L_whyNot f_X3_whyNot
        rw [ck_tr ht, zbx_of rfl, ck_ld, if_neg hl, zbx_ofl rfl]; rfl
      · unfold f_X4_whyNot
        rw [mi_tr ht, zb_of rfl, m_in, if_neg hl, zb_of rfl, m_go10, zb_of rfl, if_pos rfl]
  · refine good_err hJ (k := 1) (b := 0) ?_ ?_ (by decide)
    · unfold f_L_whyNot f_X3_whyNot
      rw [ck_trn hx, zbx_ofl rfl]; rfl
    · unfold f_X4_whyNot
      rw [mi_trn hx, zb_of rfl, m_in, zb_of rfl, m_go0, zb_of rfl, if_pos rfl]
def qwb (st : Nat → Int32) (f t : Nat) (l : Int32) : Int32 := if qcr st f t l = 0 then qcl st f l else - qcr st f t l
theorem c_wb {μ : Mm} {f t : Nat} (hf : f < 24) (ht : t < 24) {l : Int32} (hl : 1 ≤ l ∧ l ≤ 3) : f_X3_ifCopied (nI f) (nI t) l μ = some (.inr (qwb (V μ 0) f t l), μ) := by
  unfold f_X3_ifCopied qwb
  rw [ck_tr hf, zbx_of rfl, ck_tr ht, zbx_of rfl, ck_lv, if_pos hl, zbx_of rfl, c_cr hf ht, zb_of rfl]
  by_cases h : qcr (V μ 0) f t l = 0
  · rw [if_pos h, if_pos h, c_cl hf l hl.1, zb_of rfl]
  · rw [if_neg h, if_neg h]
theorem m_wb {μ : Mm} {f t : Nat} (hf : f < 24) (ht : t < 24) {l : Int32} (hl : 1 ≤ l) : f_X4_wouldBe (nI f) (nI t) l μ = some (qwb (μ 120) f t l, μ) := by
  unfold f_X4_wouldBe qwb
  rw [m_cr hf ht, zb_of rfl]
  by_cases h : qcr (μ 120) f t l = 0
  · rw [if_pos h, if_pos h, m_cl hf l hl, zb_of rfl]
  · rw [if_neg h, if_neg h]
theorem Eqv.wb {a b : Nat → Int32} (h : Eqv a b) {f t : Nat} (hf : f < 24) (ht : t < 24) (l : Int32) : qwb a f t l = qwb b f t l := by unfold qwb; rw [h.cr hf ht, h.cl hf]
theorem L_ifCopied {μ : Mm} (hJ : J μ) (x y l : Int32) : Good2 (f_L_ifCopied x y l) (f_X4_ifCopied x y l) μ := by
  rcases trk x with ⟨f, hf, rfl⟩ | hx
  · rcases trk y with ⟨t, ht, rfl⟩ | hy
    · by_cases hl : 1 ≤ l ∧ l ≤ 3
      · refine good_look hJ (r := qwb (V μ 0) f t l) ?_ (fun m h _ _ _ _ => ?_)
        · unfold f_L_ifCopied
          rw [c_wb hf ht hl]; rfl
        · unfold f_X4_ifCopied f_X4_ifCopied_b20
          rw [mi_tr hf, zb_of rfl, if_neg (by decide), mi_tr ht, zb_of rfl, if_neg (by decide), m_in, if_pos hl, zb_of rfl, m_go11, zb_of rfl, if_neg (by decide), m_wb hf ht hl.1, zb_of rfl, g5_n _ _ (by decide), h, ← hJ.1.1.wb hf ht]
      · refine good_err hJ (k := 2) (b := 0) ?_ ?_ (by decide)
        · unfold f_L_ifCopied f_X3_ifCopied
          rw [ck_tr hf, zbx_of rfl, ck_tr ht, zbx_of rfl, ck_lv, if_neg hl, zbx_ofl rfl]; rfl
        · unfold f_X4_ifCopied f_X4_ifCopied_b20
          rw [mi_tr hf, zb_of rfl, if_neg (by decide), mi_tr ht, zb_of rfl, if_neg (by decide), m_in, if_neg hl, zb_of rfl, m_go10, zb_of rfl, if_pos rfl]
    · refine good_err hJ (k := 1) (b := 0) ?_ ?_ (by decide)
      · unfold f_L_ifCopied f_X3_ifCopied
        rw [ck_tr hf, zbx_of rfl, ck_trn hy, zbx_ofl rfl]; rfl
      · unfold f_X4_ifCopied f_X4_ifCopied_b20
        rw [mi_tr hf, zb_of rfl, if_neg (by decide), mi_trn hy, zb_of rfl, if_pos rfl, m_in, zb_of rfl, m_go0, zb_of rfl, if_pos rfl]
  · refine good_err hJ (k := 1) (b := 0) ?_ ?_ (by decide)
    · unfold f_L_ifCopied f_X3_ifCopied
      rw [ck_trn hx, zbx_ofl rfl]; rfl
    · unfold f_X4_ifCopied f_X4_ifCopied_b20
      rw [mi_trn hx, zb_of rfl, if_pos rfl, m_in, zb_of rfl, m_go0, zb_of rfl, if_pos rfl]
theorem L_daughters {μ : Mm} (hJ : J μ) (x : Int32) : Good2 (f_L_daughters x) (f_X4_daughters x) μ := by
  rcases trk x with ⟨t, ht, rfl⟩ | hx
  · refine good_look hJ (r := qdau (V μ 0) t) ?_ (fun m h _ _ _ _ => ?_)
    · unfold f_L_daughters f_X3_daughters
      rw [ck_tr ht, zbx_of rfl, c_dau hJ.1.2.1 ht, zb_of rfl]; rfl
    · unfold f_X4_daughters
      have e : g5 m 0 120 = μ 120 := by rw [g5_n _ _ (by decide), h]
      rw [mi_tr ht, zb_of rfl, m_go11, zb_of rfl, if_neg (by decide), m_dau (by rw [e]; exact hJ.1.1.mok hJ.1.2.2.2.2.2.2) ht, zb_of rfl, e, ← hJ.1.1.dau]
  · refine good_err hJ (k := 1) (b := 0) ?_ ?_ (by decide)
    · unfold f_L_daughters f_X3_daughters
      rw [ck_trn hx, zbx_ofl rfl]; rfl
    · unfold f_X4_daughters
      rw [mi_trn hx, zb_of rfl, m_go0, zb_of rfl, if_pos rfl]
theorem L_clearest {μ : Mm} (hJ : J μ) : Good1 f_X3_clearest f_X4_clearest μ := by
  refine good1_look hJ (r := qn (qct (V μ 0))) ?_ ?_
  · unfold f_X3_clearest; rw [c_ct, zb_of rfl]
  · unfold f_X4_clearest
    show zb (f_X4_clearestTrack (g5 μ 0)) _ = _
    rw [m_ct, zb_of rfl, g5_n _ _ (by decide), hJ.1.1.ct]
theorem L_setting {μ : Mm} (hJ : J μ) : Good1 f_X3_setting f_X4_setting μ := by
  refine good1_look hJ (r := μ 0 11) rfl ?_
  unfold f_X4_setting
  rw [z_up_n _ _ _ (by decide), ← hJ.1.1.st (show 2 < 22 by decide)]; rfl
/-- the counts, with the saved states -/
theorem saved_eq {μ : Mm} (hJ : J μ) : μ 90 4 = μ 119 1 := by
  obtain ⟨_, ⟨p, s, _, _, h1, h2, _⟩, _⟩ := hJ
  rw [h1, h2]
def qcount (μ : Mm) (w : Nat) : Int32 := if w = 12 then μ 90 4 else qnum (V μ 0) w
theorem c_count {μ : Mm} {w : Nat} (hw : w < 13) : f_X3_count (nI w) μ = some (.inr (qcount μ w), μ) := by
  unfold f_X3_count qcount
  rw [show (13 : Int32) = nI 13 from rfl, ck_wh hw (by decide), zbx_of rfl]
  by_cases h : w = 12
  · rw [if_pos (show nI w = 12 by rw [h]; rfl), if_pos h]
  · rw [if_neg (show ¬ nI w = 12 from fun q => h ((pinj (b := 12) (by omega) (by decide)).mp q)), if_neg h, c_num w (by omega), zb_of rfl]
theorem m_count {μ ν : Mm} (hJ : J μ) {w : Nat} (hw : w < 13) (h : ν 120 = μ 120) (h1 : ν 119 1 = μ 119 1) : f_X4_counted (nI w) ν = some (qcount μ w, ν) := by
  unfold qcount
  by_cases h12 : w = 12
  · rw [if_pos h12, h12, saved_eq hJ, ← h1]; rfl
  · rw [if_neg h12, m_num w (by omega), h, hJ.1.1.num]
theorem L_count {μ : Mm} (hJ : J μ) (w : Int32) : Good2 (f_L_count w) (f_X4_count w) μ := by
  rcases rng w (N := 13) (by decide) with ⟨w, hw, rfl⟩ | hw
  · refine good_look hJ (r := qcount μ w) ?_ (fun m h h1 _ _ _ => ?_)
    · unfold f_L_count
      rw [c_count hw]; rfl
    · unfold f_X4_count
      rw [show (12 : Int32) = nI (13 - 1) from rfl, mi_wh hw (by decide), zb_of rfl, m_go11, zb_of rfl, if_neg (by decide), m_count hJ hw (by rw [g5_n _ _ (by decide), h]) (by rw [g5_k _ _ (by decide), h1]), zb_of rfl]
  · refine good_err hJ (k := 1) (b := 0) ?_ ?_ (by decide)
    · unfold f_L_count f_X3_count
      rw [show (13 : Int32) = nI 13 from rfl, ck_whn hw, zbx_ofl rfl]; rfl
    · unfold f_X4_count
      rw [show (12 : Int32) = nI (13 - 1) from rfl, mi_whn (by decide) (by decide) hw, zb_of rfl, m_go0, zb_of rfl, if_pos rfl]
