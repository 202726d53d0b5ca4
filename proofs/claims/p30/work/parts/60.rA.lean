/-! p30, PURE: what is held beside the wax: how many states are saved, and the last that were pushed -/
def Hd (μ : Mm) (s : Nat) (T : List (Nat → Int32)) : Prop :=
  JB μ ∧ s ≤ 6 ∧ μ 90 4 = nI s ∧ T.length ≤ s ∧ ∃ p, Prm μ p ∧ ∀ (i : Nat) (x : Nat → Int32), T[i]? = some x → ∀ j, j < 190 → V μ (10 * p (s - 1 - i)) j = x j
abbrev sU (s : Nat) : Nat := if s < 6 then s + 1 else 6
theorem sU_c {s : Nat} (h : s ≤ 6) : (s < 6 ∧ sU s = s + 1) ∨ (s = 6 ∧ sU s = 6) := by
  by_cases h6 : s < 6
  · exact Or.inl ⟨h6, if_pos h6⟩
  · exact Or.inr ⟨by omega, if_neg h6⟩
theorem Hd.scr {μ ν : Mm} {s : Nat} {T : List (Nat → Int32)} (h : Hd μ s T) (hc : ∀ c, c < 96 ∨ 119 ≤ c → ν c = μ c) (hB : JB ν) : Hd ν s T := by
  obtain ⟨_, hs, h4, hT, p, hp, hx⟩ := h
  refine ⟨hB, hs, by rw [hc 90 (by omega)]; exact h4, hT, p, ⟨fun i hi => ⟨(hp.1 i hi).1, by rw [hc 93 (by omega)]; exact (hp.1 i hi).2⟩, hp.2⟩, fun i x hi j hj => ?_⟩
  have hl := (List.getElem?_eq_some_iff.mp hi).1
  have hb := (hp.1 (s - 1 - i) (by omega)).1
  rw [← hx i x hi j hj]
  exact congrFun (V_same (fun c hc1 => hc _ (by omega))) j
theorem hd_op {μ : Mm} {s : Nat} {T : List (Nat → Int32)} (h : Hd μ s T) (hT5 : T.length ≤ 5) {A : Nat → Int32} {r : Int32} {clsop : Mm → Option (Int32 × Mm)}
    (hc : ∀ μ1 : Mm, V μ1 0 = V μ 0 → ∃ W : Mm, clsop μ1 = some (r, W) ∧ V W 0 = A ∧ ∀ c, 10 ≤ c → W c = μ1 c) :
    ∃ ν : Mm, zb (f_X3_saveState μ) (fun _ m => clsop m) = some (r, ν) ∧ V ν 0 = A ∧ Hd ν (sU s) (V μ 0 :: T) := by
  obtain ⟨hB, hs, h4, hT, p, hp, hx⟩ := h
  obtain ⟨μ1, q, e, q1, q2, q3, q4, q5, q6⟩ := c_save hp hs h4
  obtain ⟨W, w1, w2, w3⟩ := hc μ1 (V_same (fun c hc => q5 _ (by omega)))
  have hVW : ∀ b, 10 ≤ b → b < 90 → V W b = V μ1 b := fun b h1 h2 => V_same (fun c hc => w3 _ (by omega))
  have hsu := sU_c hs
  refine ⟨W, by rw [e]; exact w1, w2, ?_, by omega, by rw [w3 90 (by decide)]; exact q2, ?_, q, ⟨fun i hi => ⟨(q1.1 i hi).1, by rw [w3 93 (by decide)]; exact (q1.1 i hi).2⟩, q1.2⟩, fun i x hi j hj => ?_⟩
  · unfold JB; rw [w3 96 (by decide), q6 96 (by decide) (by decide)]; exact hB
  · show T.length + 1 ≤ sU s
    omega
  · match i, hi with
    | 0, hi =>
      have hxe : V μ 0 = x := Option.some.inj hi
      have hb := (q1.1 (sU s - 1 - 0) (by omega)).1
      rw [hVW _ (by omega) (by omega), ← hxe]
      exact q4 j hj
    | i + 1, hi =>
      have hi2 : T[i]? = some x := hi
      have hl := (List.getElem?_eq_some_iff.mp hi2).1
      have hb := (q1.1 (sU s - 1 - (i + 1)) (by omega)).1
      have e3 := q3 (sU s - 1 - (i + 1)) (by show sU s - 1 - (i + 1) + 1 < sU s; omega) j hj
      have e1 : (if s < 6 then sU s - 1 - (i + 1) else sU s - 1 - (i + 1) + 1) = s - 1 - i := by
        by_cases h6 : s < 6
        · rw [if_pos h6]; omega
        · rw [if_neg h6]; omega
      rw [e1] at e3
      rw [hVW _ (by omega) (by omega), e3]
      exact hx i x hi2 j hj
theorem hd_undo {μ : Mm} {s : Nat} {x : Nat → Int32} {T : List (Nat → Int32)} (h : Hd μ s (x :: T)) : ∃ ν : Mm, f_L_undo μ = some (nI (s - 1), ν) ∧ (∀ j, j < 190 → V ν 0 j = x j) ∧ Hd ν (s - 1) T := by
  obtain ⟨hB, hs, h90, hT, p, hp, hx⟩ := h
  have hT : T.length + 1 ≤ s := hT
  obtain ⟨r, rfl⟩ : ∃ r, s = r + 1 := ⟨s - 1, by omega⟩
  have hb := hp.1 r (by omega)
  obtain ⟨W, e, e1, e2⟩ := c_takeOver (z_up μ 90 4 (nI r)) (k := 0) (x := 10 * p r) (by decide) ⟨by omega, by omega⟩ (by omega)
  have kW : ∀ c, 10 ≤ c → c ≠ 90 → W c = μ c := fun c h1 h2 => by rw [e2 c (by omega), z_up_n _ _ _ h2]
  have W90 : W 90 4 = nI r := by rw [e2 90 (by omega), z_up_s, upd_s]
  have hpos : (0 : Int32) < nI (r + 1) := nI_lt (a := 0) (by omega) (by omega)
  have hx0 : ∀ j, j < 190 → V μ (10 * p r) j = x j := hx 0 x rfl
  refine ⟨W, ?_, fun j hj => ?_, ?_⟩
  · unfold f_L_undo f_X3_undo
    rw [if_pos (show 0 < μ 90 4 by rw [h90]; exact hpos), h90, nI_pred]
    simp (disch := omega) only [z_up_s, upd_s, pzix, pcl, if_true, z_up_n, hb.2, zrf]
    rw [if_pos (by omega), e, zb_of rfl, W90]; rfl
  · rw [e1 j hj, ← hx0 j hj]
    exact congrFun (V_same (fun c hc => z_up_n _ _ _ (by omega))) j
  · show Hd W r T
    refine ⟨by unfold JB; rw [kW 96 (by decide) (by decide)]; exact hB, by omega, W90, by omega, p, ⟨fun i hi => ⟨(hp.1 i hi).1, by rw [kW 93 (by decide) (by decide)]; exact (hp.1 i hi).2⟩, hp.2⟩, fun i y hi j hj => ?_⟩
    have hl := (List.getElem?_eq_some_iff.mp hi).1
    have h3 := hx (i + 1) y hi j hj
    rw [show r + 1 - 1 - (i + 1) = r - 1 - i by omega] at h3
    have hbi := (hp.1 (r - 1 - i) (by omega)).1
    rw [← h3]
    exact congrFun (V_same (fun c hc => kW _ (by omega) (by omega))) j
/-! the calls that save, as answers and new states -/
def Op (o : Mm → Option (Int32 × Mm)) (R : (Nat → Int32) → Int32) (A : (Nat → Int32) → Nat → Int32) : Prop := ∀ (μ : Mm) (s : Nat) (T : List (Nat → Int32)), Hd μ s T → T.length ≤ 5 → ∃ ν : Mm, o μ = some (R (V μ 0), ν) ∧ V ν 0 = A (V μ 0) ∧ Hd ν (sU s) (V μ 0 :: T)
theorem op_speak {t : Nat} (ht : t < 24) {l : Int32} (hl : 1 ≤ l ∧ l ≤ 9) : Op (f_L_speak (nI t) l) (fun a => qsr a t l) (fun a => aspeak a t l) := by
  intro μ s T h hT
  obtain ⟨ν, e, h1, h2⟩ := hd_op h hT (A := aspeak (V μ 0) t l) (r := qsr (V μ 0) t l) (clsop := f_X2_speakOnto (nI t) l) (fun μ1 hV => ⟨_, by rw [c_speak ht, hV], by rw [V_speak, hV], fun c hc => fr_speak _ _ _ hc⟩)
  refine ⟨ν, ?_, h1, h2⟩
  unfold f_L_speak f_X3_speak
  rw [ck_tr ht, zbx_of rfl, ck_ld, if_pos hl, zbx_of rfl, zb_inr e]; rfl
theorem op_copy {f t : Nat} (hf : f < 24) (ht : t < 24) {l : Int32} (hl : 1 ≤ l ∧ l ≤ 3) : Op (f_L_copy (nI f) (nI t) l) (fun a => qcr a f t l) (fun a => acopy a f t l) := by
  intro μ s T h hT
  obtain ⟨ν, e, h1, h2⟩ := hd_op h hT (A := acopy (V μ 0) f t l) (r := qcr (V μ 0) f t l) (clsop := f_X2_copyOnto (nI f) (nI t) l) (fun μ1 hV => ⟨_, by rw [c_copy hf ht l hl.1, hV], by rw [V_copy, hV], fun c hc => fr_copy _ _ _ _ hc⟩)
  refine ⟨ν, ?_, h1, h2⟩
  unfold f_L_copy f_X3_copy
  rw [ck_tr hf, zbx_of rfl, ck_tr ht, zbx_of rfl, ck_lv, if_pos hl, zbx_of rfl, zb_inr e]; rfl
theorem op_play {t : Nat} (ht : t < 24) : Op (f_L_play (nI t)) (fun a => qplay a t) (fun a => aplay a t) := by
  intro μ s T h hT
  obtain ⟨ν, e, h1, h2⟩ := hd_op h hT (A := aplay (V μ 0) t) (r := qplay (V μ 0) t) (clsop := f_X2_playTrack (nI t)) (fun μ1 hV => ⟨_, by rw [c_play ht, hV], by rw [V_play, hV], fun c hc => fr_play _ _ hc⟩)
  refine ⟨ν, ?_, h1, h2⟩
  unfold f_L_play f_X3_play
  rw [ck_tr ht, zbx_of rfl, zb_inr e]; rfl
theorem op_shave {c : Nat} (hc : c < 6) : Op (f_L_shave (nI c)) (fun a => qshave a c) (fun a => ashave a c) := by
  intro μ s T h hT
  obtain ⟨ν, e, h1, h2⟩ := hd_op h hT (A := ashave (V μ 0) c) (r := qshave (V μ 0) c) (clsop := f_X2_shaveCylinder (nI c)) (fun μ1 hV => ⟨_, by rw [c_shave hc, hV], by rw [V_shave _ hc, hV], fun c hc => fr_shave _ _ hc⟩)
  refine ⟨ν, ?_, h1, h2⟩
  unfold f_L_shave f_X3_shave
  rw [ck_cy hc, zbx_of rfl, zb_inr e]; rfl
theorem op_renew {c : Nat} (hc : c < 6) {l : Int32} (hl : 0 ≤ l ∧ l ≤ 100) : Op (f_L_renew (nI c) l) (fun a => a (10 + 2 * c)) (fun a => b_sm (arn a c l) c) := by
  intro μ s T h hT
  obtain ⟨ν, e, h1, h2⟩ := hd_op h hT (A := b_sm (arn (V μ 0) c l) c) (r := V μ 0 (10 + 2 * c)) (clsop := f_X2_renewCylinder (nI c) l) (fun μ1 hV => ⟨_, by rw [c_renew hc, ← hV, V_ly _ _ _ hc], by rw [V_renew _ hc, hV], fun c hc => fr_renew _ _ _ hc⟩)
  refine ⟨ν, ?_, h1, h2⟩
  unfold f_L_renew f_X3_renew
  rw [ck_cy hc, zbx_of rfl, two, if_pos hl, zb_inr e]; rfl
theorem op_set {l : Int32} (hl : 0 ≤ l ∧ l ≤ 20) : Op (f_L_set l) (fun a => a 2) (fun a => upd a 2 l) := by
  intro μ s T h hT
  obtain ⟨ν, e, h1, h2⟩ := hd_op h hT (A := upd (V μ 0) 2 l) (r := V μ 0 2) (clsop := fun m => some (m 0 11, z_up m 0 11 l)) (fun μ1 hV => ⟨_, by rw [← hV]; rfl, by rw [V_u0_11, hV], fun c hc => z_up_n _ _ _ (by omega)⟩)
  refine ⟨ν, ?_, h1, h2⟩
  unfold f_L_set f_X3_set
  rw [two, if_pos hl]
  obtain ⟨a, m, e1, e2⟩ := zb_some e
  rw [e1, zb_of rfl]
  have e3 := Option.some.inj e2
  show zbn _ _ = some (V μ 0 2, ν)
  rw [show ν = z_up m 0 11 l from (congrArg Prod.snd e3).symm, show V μ 0 2 = m 0 11 from (congrArg Prod.fst e3).symm]
  rfl
theorem op_wind : Op f_X3_wind (fun a => 100 - a 1) (fun a => upd a 1 100) := by
  intro μ s T h hT
  obtain ⟨ν, e, h1, h2⟩ := hd_op h hT (A := upd (V μ 0) 1 100) (r := 100 - V μ 0 1) (clsop := f_X2_windUp) (fun μ1 hV => ⟨_, by rw [← hV]; rfl, by rw [V_u0_10, hV], fun c hc => z_up_n _ _ _ (by omega)⟩)
  refine ⟨ν, ?_, h1, h2⟩
  unfold f_X3_wind; rw [zb_id e]
theorem op_sharpen : Op f_X3_sharpen (fun a => 100 - a 0) (fun a => upd a 0 100) := by
  intro μ s T h hT
  obtain ⟨ν, e, h1, h2⟩ := hd_op h hT (A := upd (V μ 0) 0 100) (r := 100 - V μ 0 0) (clsop := f_X2_sharpenPoint) (fun μ1 hV => ⟨_, by rw [← hV]; rfl, by rw [V_u0_9, hV], fun c hc => z_up_n _ _ _ (by omega)⟩)
  refine ⟨ν, ?_, h1, h2⟩
  unfold f_X3_sharpen; rw [zb_id e]
/-! looks -/
theorem l_tp {μ : Mm} {t w : Nat} (ht : t < 24) (hw : w < 7) : f_L_trackOf (nI t) (nI w) μ = some (qtp (V μ 0) t w, μ) := by
  unfold f_L_trackOf f_X3_trackOf
  rw [ck_tr ht, zbx_of rfl, show (7 : Int32) = nI 7 from rfl, ck_wh hw (by decide), zbx_of rfl, c_tp ht w hw, zb_of rfl]; rfl
theorem l_cp {μ : Mm} {c w : Nat} (hc : c < 6) (hw : w < 5) : f_L_cylinderOf (nI c) (nI w) μ = some (qcp (V μ 0) c w, μ) := by
  unfold f_L_cylinderOf f_X3_cylinderOf
  rw [ck_cy hc, zbx_of rfl, show (5 : Int32) = nI 5 from rfl, ck_wh hw (by decide), zbx_of rfl, c_cp hc hw, zb_of rfl]; rfl
theorem l_cnt {μ : Mm} {w : Nat} (hw : w < 13) : f_L_count (nI w) μ = some (qcount μ w, μ) := by
  unfold f_L_count
  rw [c_count hw]; rfl
theorem l_num {μ : Mm} {w : Nat} (hw : w < 12) : f_L_count (nI w) μ = some (qnum (V μ 0) w, μ) := by
  rw [l_cnt (by omega)]
  unfold qcount
  rw [if_neg (by omega)]
theorem l_why {μ : Mm} {t : Nat} (ht : t < 24) {l : Int32} (hl : 1 ≤ l ∧ l ≤ 9) : f_L_whyNot (nI t) l μ = some (qsr (V μ 0) t l, μ) := by
  unfold f_L_whyNot f_X3_whyNot
  rw [ck_tr ht, zbx_of rfl, ck_ld, if_pos hl, zbx_of rfl, c_sr ht, zb_of rfl]; rfl
theorem l_wb {μ : Mm} {f t : Nat} (hf : f < 24) (ht : t < 24) {l : Int32} (hl : 1 ≤ l ∧ l ≤ 3) : f_L_ifCopied (nI f) (nI t) l μ = some (qwb (V μ 0) f t l, μ) := by
  unfold f_L_ifCopied
  rw [c_wb hf ht hl]; rfl
theorem l_dau {μ : Mm} (hN : Nrm (V μ 0)) {t : Nat} (ht : t < 24) : f_L_daughters (nI t) μ = some (qdau (V μ 0) t, μ) := by
  unfold f_L_daughters f_X3_daughters
  rw [ck_tr ht, zbx_of rfl, c_dau hN ht, zb_of rfl]; rfl
theorem l_ct {μ : Mm} : f_X3_clearest μ = some (qn (qct (V μ 0)), μ) := by
  unfold f_X3_clearest; rw [c_ct, zb_of rfl]
theorem l_set {μ : Mm} : f_X3_setting μ = some (V μ 0 2, μ) := rfl
theorem l_chain {μ : Mm} (hB : JB μ) (hR : Bd (V μ 0)) {t C w : Nat} (ht : t < 24) (hC : 1 ≤ C ∧ C ≤ 5) (hw : w < 2) : ∃ ν : Mm, f_L_chain (nI t) (nI C) (nI w) μ = some (qchain (V μ 0) t C w, ν) ∧ (∀ c, c < 96 ∨ 119 ≤ c → ν c = μ c) ∧ JB ν := by
  obtain ⟨ν, e, h1, h2⟩ := c_chain hB hR ht hC hw
  refine ⟨ν, ?_, h1, h2⟩
  unfold f_L_chain
  rw [e]; rfl
