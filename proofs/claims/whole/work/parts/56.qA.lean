/-! PURE: the reference's digest -/
theorem DM.rel {μ κ : Mm} (hJ : J μ) (h : DM μ κ) : Rel (V μ 0) (κ 120) := by rw [h.1 120 (by decide) (by decide) (by decide) (by decide)]; exact hJ.1
theorem DM.e120 {μ κ : Mm} (h : DM μ κ) : κ 120 = μ 120 := h.1 120 (by decide) (by decide) (by decide) (by decide)
theorem DM.ch {μ κ ν : Mm} (h : DM μ κ) (h2 : ∀ c, c ≠ 123 → c ≠ 124 → ν c = κ c) : DM μ ν :=
  ⟨fun c c1 c2 c3 c4 => by rw [h2 c c3 c4, h.1 c c1 c2 c3 c4], fun k hk => by rw [h2 119 (by decide) (by decide), h.2.1 k hk], by unfold JB; rw [h2 96 (by decide) (by decide)]; exact h.2.2⟩
theorem DM.g5 {μ κ : Mm} (h : DM μ κ) : DM μ (Jvm.Pilot.CWaxCopiesLaw_law_r8460_65119f.g5 κ 0) :=
  ⟨fun c c1 c2 c3 c4 => by rw [g5_n _ _ c1, h.1 c c1 c2 c3 c4], fun k hk => by rw [g5_k _ _ hk, h.2.1 k hk], by unfold JB; rw [g5_n _ _ (by decide)]; exact h.2.2⟩
theorem e_props {a : Nat → Int32} {x : Nat} (hx : x < 24) : ∀ (m w n : Nat) (z : Int64) (κ : Mm), Rel a (κ 120) → w + m = 7 → m < n → f_X4_ofTrack_b6 n (nI x) z (nI w) κ = f_X4_ofTrack_b6 1 (nI x) (lp (qprop a x) m w z) 7 κ := by
  intro m
  induction m with
  | zero =>
    intro w n z κ hR hw hn
    obtain ⟨n, rfl⟩ : ∃ q, n = q + 1 := ⟨n - 1, by omega⟩
    have h7 : nI w = 7 := by rw [show w = 7 by omega]; rfl
    rw [h7, f_X4_ofTrack_b6, if_pos (by decide), f_X4_ofTrack_b6, if_pos (by decide)]
    rfl
  | succ m ih =>
    intro w n z κ hR hw hn
    obtain ⟨n, rfl⟩ : ∃ q, n = q + 1 := ⟨n - 1, by omega⟩
    rw [f_X4_ofTrack_b6, if_neg (show ¬ (7 : Int32) ≤ nI w from pge (b := 7) (by omega) (by omega)), m_tp hx w (by omega), zb_of rfl, pa1, ← hR.1.tp hx (by omega), ih (w + 1) n _ κ hR (by omega) (by omega)]
    rfl
theorem e_trk {μ κ : Mm} (hJ : J μ) (hK : DM μ κ) {t : Nat} (ht : t < 24) (z : Int64) : ∃ ν : Mm, f_X4_ofTrack z (nI t) κ = some (qtrk (V μ 0) t z, ν) ∧ DM μ ν := by
  have ch : ∀ (m : Mm) (C w : Nat), DM μ m → 1 ≤ C ∧ C ≤ 5 → w < 2 → ∃ ν : Mm, f_X4_chained (nI t) (nI C) (nI w) m = some (qchain (V μ 0) t C w, ν) ∧ DM μ ν := fun m C w hm hC hw => by
    obtain ⟨ν, e, e1⟩ := m_chain (hm.rel hJ) ht hC hw
    exact ⟨ν, e, hm.ch e1⟩
  obtain ⟨m1, a1, b1⟩ := ch κ 1 0 hK (by decide) (by decide)
  obtain ⟨m2, a2, b2⟩ := ch m1 1 1 b1 (by decide) (by decide)
  obtain ⟨m3, a3, b3⟩ := ch m2 3 0 b2 (by decide) (by decide)
  obtain ⟨m4, a4, b4⟩ := ch m3 3 1 b3 (by decide) (by decide)
  have hR := hK.rel hJ
  refine ⟨m4, ?_, b4⟩
  unfold f_X4_ofTrack
  rw [show f_X4_ofTrack_b6 z_F (nI t) z 0 κ = _ from e_props ht 7 0 z_F z κ hR rfl (by decide), show (1 : Nat) = 0 + 1 from rfl, f_X4_ofTrack_b6, if_pos (by decide), m_sr ht, zb_of rfl, m_dau (hR.1.mok hR.2.2.2.2.2.2) ht, zb_of rfl, show f_X4_chained (nI t) 1 0 κ = _ from a1, zb_of rfl, show f_X4_chained (nI t) 1 1 m1 = _ from a2, zb_of rfl, show f_X4_chained (nI t) 3 0 m2 = _ from a3, zb_of rfl, show f_X4_chained (nI t) 3 1 m3 = _ from a4, zb_of rfl, ← hR.1.sr ht, ← hR.1.dau]
  rfl
theorem e_b47 {μ : Mm} (hJ : J μ) : ∀ (m t n : Nat) (z : Int64) (κ : Mm), t + m = 24 → m < n → DM μ κ → ∃ ν : Mm, f_X4_digest_b47 n z (nI t) κ = f_X4_digest_b68 z_F (lp (qtrk (V μ 0)) m t z) 0 ν ∧ DM μ ν := by
  intro m
  induction m with
  | zero =>
    intro t n z κ ht hn hK
    obtain ⟨n, rfl⟩ : ∃ q, n = q + 1 := ⟨n - 1, by omega⟩
    refine ⟨κ, ?_, hK⟩
    rw [f_X4_digest_b47, if_pos (show (24 : Int32) ≤ nI t from ple (a := 24) (by omega) (by omega))]
    rfl
  | succ m ih =>
    intro t n z κ ht hn hK
    obtain ⟨n, rfl⟩ : ∃ q, n = q + 1 := ⟨n - 1, by omega⟩
    obtain ⟨κ1, e, e1⟩ := e_trk hJ hK (show t < 24 by omega) z
    obtain ⟨ν, f, f1⟩ := ih (t + 1) n (qtrk (V μ 0) t z) κ1 (by omega) (by omega) e1
    refine ⟨ν, ?_, f1⟩
    rw [f_X4_digest_b47, if_neg (show ¬ (24 : Int32) ≤ nI t from pge (b := 24) (by omega) (by omega)), e, zb_of rfl, pa1]
    exact f
theorem p5d {a : Nat} (h : a < 2 ^ 31) : nI a / 5 = nI (a / 5) := by
  apply Int32.toInt_inj.mp
  rw [i_div (by rw [nI_toInt h]; omega) (by decide), nI_toInt h, nI_toInt (by omega), i_5]
  omega
theorem p5r {a : Nat} (h : a < 2 ^ 31) : nI a - nI (a / 5) * 5 = nI (a % 5) := by
  rw [show (5 : Int32) = nI 5 from rfl, pmul]
  apply Int32.toInt_inj.mp
  rw [i_sub (by rw [nI_toInt h, nI_toInt (by omega)]; omega) (by rw [nI_toInt h, nI_toInt (by omega)]; omega), nI_toInt h, nI_toInt (by omega), nI_toInt (by omega)]
  omega
theorem e_b68 {a : Nat → Int32} {κ : Mm} (hR : Rel a (κ 120)) : ∀ (m j n : Nat) (z : Int64), j + m = 30 → m < n → f_X4_digest_b68 n z (nI j) κ = f_X4_digest_b68 1 (lp (fun j z => mx2 z (qcp a (j / 5) (j % 5))) m j z) 30 κ := by
  intro m
  induction m with
  | zero =>
    intro j n z hj hn
    obtain ⟨n, rfl⟩ : ∃ q, n = q + 1 := ⟨n - 1, by omega⟩
    have h6 : nI j = 30 := by rw [show j = 30 by omega]; rfl
    rw [h6, show (1 : Nat) = 0 + 1 from rfl, f_X4_digest_b68, if_pos (by decide), f_X4_digest_b68, if_pos (by decide)]
    rfl
  | succ m ih =>
    intro j n z hj hn
    obtain ⟨n, rfl⟩ : ∃ q, n = q + 1 := ⟨n - 1, by omega⟩
    rw [f_X4_digest_b68, if_neg (show ¬ (30 : Int32) ≤ nI j from pge (b := 30) (by omega) (by omega)), p5d (by omega), p5r (by omega), m_cp (show j / 5 < 6 by omega) (Nat.mod_lt _ (by decide)), zb_of rfl, pa1, ← hR.1.cp (show j / 5 < 6 by omega)]
    exact ih (j + 1) n _ (by omega) (by omega)
theorem lp_mul5 {α : Type} {f : Nat → α → α} : ∀ (m d : Nat) (a : α), lp f (5 * m) (5 * d) a = lp (fun d a => lp (fun s a => f (5 * d + s) a) 5 0 a) m d a := by
  intro m
  induction m with
  | zero => intro d a; rfl
  | succ m ih =>
    intro d a
    rw [show 5 * (m + 1) = 5 + 5 * m by omega, lp_add 5 (5 * m) (5 * d) a, show 5 * d + 5 = 5 * (d + 1) by omega, ih]
    show lp _ m (d + 1) (lp f 5 (5 * d + 0) a) = lp _ m (d + 1) (lp (fun s a => f (5 * d + s) a) 5 0 a)
    rw [lp_shift (5 * d) 5 0 a]
theorem lp30 (a : Nat → Int32) (z : Int64) : lp (fun j z => mx2 z (qcp a (j / 5) (j % 5))) 30 0 z = lp (qcyl a) 6 0 z := by
  rw [show (30 : Nat) = 5 * 6 from rfl, show lp (fun j z => mx2 z (qcp a (j / 5) (j % 5))) (5 * 6) 0 z = lp (fun j z => mx2 z (qcp a (j / 5) (j % 5))) (5 * 6) (5 * 0) z from rfl, lp_mul5]
  refine lp_congr _ _ _ (fun d _ _ z => ?_)
  refine lp_congr _ _ _ (fun s h1 h2 z => ?_)
  rw [show (5 * d + s) / 5 = d by omega, show (5 * d + s) % 5 = s by omega]
theorem e_b6 {μ κ : Mm} (hJ : J μ) (hK : DM μ κ) : ∀ (m w n : Nat) (z : Int64), w + m = 13 → m < n → f_X4_digest_b6 n z (nI w) κ = f_X4_digest_b47 z_F (mx2 (lp (fun w a => mx2 a (qcount μ w)) m w z) (V μ 0 2)) 0 κ := by
  intro m
  induction m with
  | zero =>
    intro w n z hw hn
    obtain ⟨n, rfl⟩ : ∃ q, n = q + 1 := ⟨n - 1, by omega⟩
    rw [f_X4_digest_b6, if_pos (show (13 : Int32) ≤ nI w from ple (a := 13) (by omega) (by omega)), hK.e120, hJ.1.1.st (show 2 < 22 by decide)]
    rfl
  | succ m ih =>
    intro w n z hw hn
    obtain ⟨n, rfl⟩ : ∃ q, n = q + 1 := ⟨n - 1, by omega⟩
    rw [f_X4_digest_b6, if_neg (show ¬ (13 : Int32) ≤ nI w from pge (b := 13) (by omega) (by omega)), m_count hJ (by omega) hK.e120 (hK.2.1 1 (by decide)), zb_of rfl, pa1]
    exact ih (w + 1) n _ (by omega) (by omega)
theorem e_b244 {κ : Mm} {f : Nat → Int32} {n : Nat} (hn : n ≤ 60) (h4 : κ 119 4 = nI n) (hf : ∀ j, j < n → κ 122 j = f j) : ∀ (m j fu : Nat) (z : Int64), j + m = n → m < fu → f_X4_digest_b244 fu z (nI j) κ = some (lp (qchr f) m j z, κ) := by
  intro m
  induction m with
  | zero =>
    intro j fu z hj hfu
    obtain ⟨fu, rfl⟩ : ∃ q, fu = q + 1 := ⟨fu - 1, by omega⟩
    rw [f_X4_digest_b244, h4, if_pos (ple (by omega) (by omega))]
    rfl
  | succ m ih =>
    intro j fu z hj hfu
    obtain ⟨fu, rfl⟩ : ∃ q, fu = q + 1 := ⟨fu - 1, by omega⟩
    rw [f_X4_digest_b244, h4, if_neg (pge (by omega) (by omega))]
    simp (disch := omega) only [pzix, pcl, if_true, pa1]
    rw [hf j (by omega)]
    exact ih (j + 1) fu _ (by omega) (by omega)
theorem e_tail {κ : Mm} {f : Nat → Int32} {n : Nat} (hn : n ≤ 60) (h4 : κ 119 4 = nI n) (hf : ∀ j, j < n → κ 122 j = f j) (z : Int64) : (if κ 121 0 = 0 then f_X4_digest_b205 0 ((31 : Int64) * z) κ else f_X4_digest_b205 1 ((31 : Int64) * z) κ) = some (qtail f n (κ 121 0) (κ 121 1) z, κ) := by
  have e2 : ∀ (y0 : Int32) (y1 : Int64), f_X4_digest_b227 y0 y1 κ = some (lp (qchr f) n 0 (mx2 (y1 + y0.toInt64) (nI n)), κ) := fun y0 y1 => by
    unfold f_X4_digest_b227
    rw [h4]
    exact e_b244 hn h4 hf n 0 z_F _ (by omega) (by have := zF1200; omega)
  have e1 : ∀ (y0 : Int32) (y1 : Int64), f_X4_digest_b205 y0 y1 κ = some (lp (qchr f) n 0 (mx2 ((31 : Int64) * (y1 + y0.toInt64) + qslot (κ 121 1)) (nI n)), κ) := fun y0 y1 => by
    unfold f_X4_digest_b205 qslot
    by_cases h : κ 121 1 = 0
    · rw [if_pos h, if_pos h, e2]; rfl
    · rw [if_neg h, if_neg h, e2]; rfl
  unfold qtail
  by_cases h : κ 121 0 = 0
  · rw [if_pos h, e1, show qslot (κ 121 0) = 0 from if_pos h]; rfl
  · rw [if_neg h, e1, show qslot (κ 121 0) = 1 from if_neg h]; rfl
theorem e_digest {μ κ : Mm} (hJ : J μ) (hK : DM μ κ) {n : Nat} (hT : JT μ n) : ∃ ν : Mm, f_X4_digest κ = some (qtail (jf μ n) n (μ 92 0) (μ 92 1) (qdig2 (V μ 0) (qdig1 (V μ 0) (qcount μ))), ν) ∧ DM μ ν := by
  obtain ⟨ν, e, hG⟩ := e_b47 hJ 24 0 z_F (mx2 (lp (fun w a => mx2 a (qcount μ w)) 13 0 3559) (V μ 0 2)) κ rfl (by decide) hK
  have hR := hG.rel hJ
  have hG1 := hG.g5
  have hG2 := hG1.g5
  have hR1 := hG1.rel hJ
  have hF := okF_s (qmean_ok hJ.1.2.2)
  have hS := okD_s (qshare_ok hJ.1.2.2)
  refine ⟨g5 (g5 ν 0) 0, ?_, hG2⟩
  unfold f_X4_digest
  rw [show f_X4_digest_b6 z_F 3559 0 κ = _ from e_b6 hJ hK 13 0 z_F 3559 rfl (by decide), show f_X4_digest_b47 z_F _ 0 κ = _ from e, show f_X4_digest_b68 z_F _ 0 ν = _ from e_b68 hR 30 0 z_F _ rfl (by decide), lp30]
  rw [show (1 : Nat) = 0 + 1 from rfl, f_X4_digest_b68, if_pos (by decide), show f_X4_wouldBe 0 4 2 ν = some (qwb (ν 120) 0 4 2, ν) from m_wb (f := 0) (t := 4) (by decide) (by decide) (by decide), zb_of rfl, show f_X4_wouldBe 4 9 2 ν = some (qwb (ν 120) 4 9 2, ν) from m_wb (f := 4) (t := 9) (by decide) (by decide) (by decide), zb_of rfl, show f_X4_wouldBe 9 0 2 ν = some (qwb (ν 120) 9 0 2, ν) from m_wb (f := 9) (t := 0) (by decide) (by decide) (by decide), zb_of rfl, m_ct, zb_of rfl, m_mean hR.bd, zb_of rfl, ← hR.1.mean, ← hR.1.ct, ← hR.1.wb (f := 0) (t := 4) (by decide) (by decide), ← hR.1.wb (f := 4) (t := 9) (by decide) (by decide), ← hR.1.wb (f := 9) (t := 0) (by decide) (by decide)]
  rw [show f_Jxf58ca_floatToIntBits_5c35a (qmean (V μ 0)) (g5 ν 0) = some ((qmean (V μ 0)).toInt32, g5 ν 0) by unfold f_Jxf58ca_floatToIntBits_5c35a f_Jxf58ca_isNaN_12338; rw [if_pos hF.2.2.1, zb_of rfl, if_pos rfl], zb_of rfl, m_share hR1.bd, zb_of rfl, ← hR1.1.share]
  rw [show f_Jxe99ae_doubleToLongBits_ccdee (qshare (V μ 0)) (g5 (g5 ν 0) 0) = some ((qshare (V μ 0)).toInt64, g5 (g5 ν 0) 0) by unfold f_Jxe99ae_doubleToLongBits_ccdee f_Jxe99ae_isNaN_b9ae7; rw [if_pos hS.2.1, zb_of rfl, if_pos rfl], zb_of rfl]
  have h121 : (g5 (g5 ν 0) 0) 121 = μ 121 := hG2.1 121 (by decide) (by decide) (by decide) (by decide)
  have ht := e_tail (κ := g5 (g5 ν 0) 0) (f := jf μ n) (n := n) hT.1 (by rw [hG2.2.1 4 (by decide)]; exact hT.2.2.1) (fun j hj => by
    rw [hG2.1 122 (by decide) (by decide) (by decide) (by decide), ← (hT.2.2.2 j hj).1]; exact (if_pos hj).symm) (qdig2 (V μ 0) (qdig1 (V μ 0) (qcount μ)))
  rw [h121, ← (hJ.2.2.1 0 (by decide)).1, ← (hJ.2.2.1 1 (by decide)).1] at ht
  rw [h121, ← (hJ.2.2.1 0 (by decide)).1]
  exact ht
theorem L_digest {μ : Mm} (hJ : J μ) : ∃ (r : Int64) (m m2 : Mm), f_X3_digest μ = some (r, m) ∧ f_X4_digest m = some (r, m2) ∧ J m2 := by
  obtain ⟨n, hT⟩ := hJ.2.2.2.1
  obtain ⟨m, e, hG⟩ := d_digest hJ hT
  have hK : DM μ m := ⟨fun c c1 c2 _ _ => hG.1 c (by omega), fun k _ => by rw [hG.1 119 (by decide)], hG.2⟩
  obtain ⟨m2, e2, hK2⟩ := e_digest hJ hK hT
  exact ⟨_, m, m2, e, e2, hJ.scr2 (fun c c1 _ c3 c4 c5 => hK2.1 c c1 c3 c4 c5) hK2.2.2 (hK2.2.1 1 (by decide)) (hK2.2.1 4 (by decide))⟩
