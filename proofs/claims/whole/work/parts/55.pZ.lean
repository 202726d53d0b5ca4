/-! PURE: the digest -/
def mx2 (a : Int64) (x : Int32) : Int64 := (31 : Int64) * a + x.toInt64
theorem c_mx (a b : Int64) {μ : Mm} : f_X3_mixed a b μ = some ((31 : Int64) * a + b, μ) := rfl
def qprop (st : Nat → Int32) (t : Nat) : Nat → Int64 → Int64 := fun w a => mx2 a (qtp st t w)
def qtrk (st : Nat → Int32) (t : Nat) (a : Int64) : Int64 := mx2 (mx2 (mx2 (mx2 (mx2 (mx2 (lp (qprop st t) 7 0 a) (qsr st t 5)) (qdau st t)) (qchain st t 1 0)) (qchain st t 1 1)) (qchain st t 3 0)) (qchain st t 3 1)
def qcyl (st : Nat → Int32) (c : Nat) (a : Int64) : Int64 := lp (fun w a => mx2 a (qcp st c w)) 5 0 a
def DG (μ m : Mm) : Prop := (∀ c, c < 96 ∨ 119 ≤ c → m c = μ c) ∧ JB m
def DM (μ m : Mm) : Prop := (∀ c, c ≠ 119 → ¬ (96 ≤ c ∧ c < 119) → c ≠ 123 → c ≠ 124 → m c = μ c) ∧ (∀ k, k ≠ 5 → m 119 k = μ 119 k) ∧ JB m
theorem DG.V {μ m : Mm} (h : DG μ m) : Jvm.Pilot.CWaxCopiesLaw_law_r8460_65119f.V m 0 = Jvm.Pilot.CWaxCopiesLaw_law_r8460_65119f.V μ 0 := V_same (fun c hc => h.1 _ (by omega))
theorem DG.tr {μ m m2 : Mm} (h : DG μ m) (h2 : DG m m2) : DG μ m2 := ⟨fun c hc => by rw [h2.1 c hc, h.1 c hc], h2.2⟩
theorem d_trackOf {μ : Mm} {t w : Nat} (ht : t < 24) (hw : w < 7) : f_X3_trackOf (nI t) (nI w) μ = some (.inr (qtp (V μ 0) t w), μ) := by
  unfold f_X3_trackOf
  rw [ck_tr ht, zbx_of rfl, show (7 : Int32) = nI 7 from rfl, ck_wh hw (by decide), zbx_of rfl, c_tp ht w hw, zb_of rfl]
theorem d_cylOf {μ : Mm} {t w : Nat} (ht : t < 6) (hw : w < 5) : f_X3_cylinderOf (nI t) (nI w) μ = some (.inr (qcp (V μ 0) t w), μ) := by
  unfold f_X3_cylinderOf
  rw [ck_cy ht, zbx_of rfl, show (5 : Int32) = nI 5 from rfl, ck_wh hw (by decide), zbx_of rfl, c_cp ht hw, zb_of rfl]
theorem d_whyNot {μ : Mm} {t : Nat} (ht : t < 24) : f_X3_whyNot (nI t) 5 μ = some (.inr (qsr (V μ 0) t 5), μ) := by
  unfold f_X3_whyNot
  rw [ck_tr ht, zbx_of rfl, ck_ld, if_pos (by decide), zbx_of rfl, c_sr ht, zb_of rfl]
theorem d_daughters {μ : Mm} (hN : Nrm (V μ 0)) {t : Nat} (ht : t < 24) : f_X3_daughters (nI t) μ = some (.inr (qdau (V μ 0) t), μ) := by
  unfold f_X3_daughters
  rw [ck_tr ht, zbx_of rfl, c_dau hN ht, zb_of rfl]
theorem d_props {x : Nat} (hx : x < 24) : ∀ (m w n : Nat) (a : Int64) (μ : Mm), w + m = 7 → m < n → f_X3_mixedTrack_b6 n (nI x) a (nI w) μ = f_X3_mixedTrack_b6 1 (nI x) (lp (qprop (V μ 0) x) m w a) 7 μ := by
  intro m
  induction m with
  | zero =>
    intro w n a μ hw hn
    obtain ⟨n, rfl⟩ : ∃ q, n = q + 1 := ⟨n - 1, by omega⟩
    have h7 : nI w = 7 := by rw [show w = 7 by omega]; rfl
    rw [h7, f_X3_mixedTrack_b6, if_pos (by decide), f_X3_mixedTrack_b6, if_pos (by decide)]
    rfl
  | succ m ih =>
    intro w n a μ hw hn
    obtain ⟨n, rfl⟩ : ∃ q, n = q + 1 := ⟨n - 1, by omega⟩
    rw [f_X3_mixedTrack_b6, if_neg (show ¬ (7 : Int32) ≤ nI w from pge (b := 7) (by omega) (by omega)), d_trackOf hx (by omega), zbn_of rfl, c_mx, zb_of rfl, pa1, ih (w + 1) n _ μ (by omega) (by omega)]
    rfl
theorem d_trk {μ : Mm} (hB : JB μ) (hN : Nrm (V μ 0)) (hD : Bd (V μ 0)) {t : Nat} (ht : t < 24) (a : Int64) : ∃ ν : Mm, f_X3_mixedTrack a (nI t) μ = some (qtrk (V μ 0) t a, ν) ∧ DG μ ν := by
  have ch : ∀ (m : Mm) (C w : Nat), DG μ m → 1 ≤ C ∧ C ≤ 5 → w < 2 → ∃ ν : Mm, f_X3_chain (nI t) (nI C) (nI w) m = some (.inr (qchain (V μ 0) t C w), ν) ∧ DG μ ν := fun m C w hm hC hw => by
    obtain ⟨ν, e, e1, e2⟩ := c_chain hm.2 (by rw [hm.V]; exact hD) ht hC hw
    rw [hm.V] at e
    exact ⟨ν, e, hm.tr ⟨e1, e2⟩⟩
  obtain ⟨m1, a1, b1⟩ := ch μ 1 0 ⟨fun _ _ => rfl, hB⟩ (by decide) (by decide)
  obtain ⟨m2, a2, b2⟩ := ch m1 1 1 b1 (by decide) (by decide)
  obtain ⟨m3, a3, b3⟩ := ch m2 3 0 b2 (by decide) (by decide)
  obtain ⟨m4, a4, b4⟩ := ch m3 3 1 b3 (by decide) (by decide)
  refine ⟨m4, ?_, b4⟩
  unfold f_X3_mixedTrack
  rw [show f_X3_mixedTrack_b6 z_F (nI t) a 0 μ = _ from d_props ht 7 0 z_F a μ rfl (by decide), show (1 : Nat) = 0 + 1 from rfl, f_X3_mixedTrack_b6, if_pos (by decide), d_whyNot ht, zbn_of rfl, c_mx, zb_of rfl, d_daughters hN ht, zbn_of rfl, c_mx, zb_of rfl, show f_X3_chain (nI t) 1 0 μ = _ from a1, zbn_of rfl, c_mx, zb_of rfl, show f_X3_chain (nI t) 1 1 m1 = _ from a2, zbn_of rfl, c_mx, zb_of rfl, show f_X3_chain (nI t) 3 0 m2 = _ from a3, zbn_of rfl, c_mx, zb_of rfl, show f_X3_chain (nI t) 3 1 m3 = _ from a4, zbn_of rfl, c_mx, zb_of rfl]
  rfl
theorem d_b41 {μ : Mm} (hN : Nrm (V μ 0)) (hD : Bd (V μ 0)) : ∀ (m t n : Nat) (a : Int64) (κ : Mm), t + m = 24 → m < n → DG μ κ → ∃ ν : Mm, f_X3_digest_b41 n a (nI t) κ = f_X3_digest_b62 z_F (lp (qtrk (V μ 0)) m t a) 0 ν ∧ DG μ ν := by
  intro m
  induction m with
  | zero =>
    intro t n a κ ht hn hK
    obtain ⟨n, rfl⟩ : ∃ q, n = q + 1 := ⟨n - 1, by omega⟩
    refine ⟨κ, ?_, hK⟩
    rw [f_X3_digest_b41, if_pos (show (24 : Int32) ≤ nI t from ple (a := 24) (by omega) (by omega))]
    rfl
  | succ m ih =>
    intro t n a κ ht hn hK
    obtain ⟨n, rfl⟩ : ∃ q, n = q + 1 := ⟨n - 1, by omega⟩
    obtain ⟨κ1, e, e1⟩ := d_trk (μ := κ) hK.2 (by rw [hK.V]; exact hN) (by rw [hK.V]; exact hD) (show t < 24 by omega) a
    rw [hK.V] at e
    obtain ⟨ν, f, f1⟩ := ih (t + 1) n (qtrk (V μ 0) t a) κ1 (by omega) (by omega) (hK.tr e1)
    refine ⟨ν, ?_, f1⟩
    rw [f_X3_digest_b41, if_neg (show ¬ (24 : Int32) ≤ nI t from pge (b := 24) (by omega) (by omega)), e, zb_of rfl, pa1]
    exact f
theorem d_b71 {ag : Int64 → Int32 → Mm → Option (Int64 × Mm)} {μ : Mm} {c : Nat} (hc : c < 6) : ∀ (m w n : Nat) (a : Int64), w + m = 5 → m < n → f_X3_digest_b71 ag n a (nI c) (nI w) μ = ag (lp (fun w a => mx2 a (qcp (V μ 0) c w)) m w a) (nI (c + 1)) μ := by
  intro m
  induction m with
  | zero =>
    intro w n a hw hn
    obtain ⟨n, rfl⟩ : ∃ q, n = q + 1 := ⟨n - 1, by omega⟩
    rw [f_X3_digest_b71, if_pos (show (5 : Int32) ≤ nI w from ple (a := 5) (by omega) (by omega)), pa1]
    rfl
  | succ m ih =>
    intro w n a hw hn
    obtain ⟨n, rfl⟩ : ∃ q, n = q + 1 := ⟨n - 1, by omega⟩
    rw [f_X3_digest_b71, if_neg (show ¬ (5 : Int32) ≤ nI w from pge (b := 5) (by omega) (by omega)), d_cylOf hc (by omega), zbn_of rfl, c_mx, zb_of rfl, pa1]
    exact ih (w + 1) n _ (by omega) (by omega)
theorem d_b62 {μ : Mm} : ∀ (m c n : Nat) (a : Int64), c + m = 6 → m < n → f_X3_digest_b62 n a (nI c) μ = f_X3_digest_b62 1 (lp (qcyl (V μ 0)) m c a) 6 μ := by
  intro m
  induction m with
  | zero =>
    intro c n a hc hn
    obtain ⟨n, rfl⟩ : ∃ q, n = q + 1 := ⟨n - 1, by omega⟩
    have h6 : nI c = 6 := by rw [show c = 6 by omega]; rfl
    rw [h6, show (1 : Nat) = 0 + 1 from rfl, f_X3_digest_b62, if_pos (by decide), f_X3_digest_b62, if_pos (by decide)]
    rfl
  | succ m ih =>
    intro c n a hc hn
    obtain ⟨n, rfl⟩ : ∃ q, n = q + 1 := ⟨n - 1, by omega⟩
    rw [f_X3_digest_b62, if_neg (show ¬ (6 : Int32) ≤ nI c from pge (b := 6) (by omega) (by omega)), show f_X3_digest_b71 (f_X3_digest_b62 n) z_F a (nI c) 0 μ = _ from d_b71 (show c < 6 by omega) 5 0 z_F a rfl (by decide)]
    exact ih (c + 1) n _ (by omega) (by omega)
def qchr (f : Nat → Int32) : Nat → Int64 → Int64 := fun j a => mx2 a (f j)
theorem d_b234 {μ : Mm} {f : Nat → Int32} {n : Nat} (hT : TX μ f n) : ∀ (m j fu : Nat) (a : Int64), j + m = n → m < fu → f_X3_digest_b234 fu a (nI j) μ = some (lp (qchr f) m j a, μ) := by
  have hn := hT.2.1
  intro m
  induction m with
  | zero =>
    intro j fu a hj hf
    obtain ⟨fu, rfl⟩ : ∃ q, fu = q + 1 := ⟨fu - 1, by omega⟩
    rw [f_X3_digest_b234, show f_X0_length μ = some (nI n, μ) by unfold f_X0_length; rw [hT.1], zb_of rfl, if_pos (ple (by omega) (by omega))]
    rfl
  | succ m ih =>
    intro j fu a hj hf
    obtain ⟨fu, rfl⟩ : ∃ q, fu = q + 1 := ⟨fu - 1, by omega⟩
    rw [f_X3_digest_b234, show f_X0_length μ = some (nI n, μ) by unfold f_X0_length; rw [hT.1], zb_of rfl, if_neg (pge (by omega) (by omega)), c_code hT (by omega), zb_of rfl, c_mx, zb_of rfl, pa1]
    exact ih (j + 1) fu _ (by omega) (by omega)
def qslot (x : Int32) : Int64 := if x = 0 then 0 else 1
def qtail (f : Nat → Int32) (n : Nat) (s0 s1 : Int32) (a : Int64) : Int64 := lp (qchr f) n 0 (mx2 ((31 : Int64) * ((31 : Int64) * a + qslot s0) + qslot s1) (nI n))
theorem d_b189 {μ : Mm} {f : Nat → Int32} {n : Nat} (hT : TX μ f n) (a : Int64) : f_X3_digest_b189 z_F a 0 μ = some (qtail f n (μ 92 0) (μ 92 1) a, μ) := by
  have st : ∀ (k fu : Nat) (a : Int64), k < 2 → f_X3_digest_b189 (fu + 1) a (nI k) μ = f_X3_digest_b189 fu ((31 : Int64) * a + qslot (μ 92 k)) (nI (k + 1)) μ := fun k fu a hk => by
    rw [f_X3_digest_b189, if_neg (show ¬ (2 : Int32) ≤ nI k from pge (b := 2) (by omega) (by omega))]
    simp (disch := omega) only [pzix, pcl, if_true]
    unfold f_X3_digest_b209 qslot
    by_cases h : μ 92 k = 0
    · rw [if_pos h, if_pos h, c_mx, zb_of rfl, pa1]
    · rw [if_neg h, if_neg h, c_mx, zb_of rfl, pa1]
  have hn := hT.2.1
  rw [show z_F = 1197 + 1 + 1 + 1 from rfl, show (0 : Int32) = nI 0 from rfl, st 0 _ _ (by decide), st 1 _ _ (by decide), f_X3_digest_b189, if_pos (by decide), show f_X0_length μ = some (nI n, μ) by unfold f_X0_length; rw [hT.1], zb_of rfl, c_mx, zb_of rfl]
  exact d_b234 hT n 0 z_F _ (by omega) (by have := zF1200; omega)
def qdig1 (st : Nat → Int32) (cnt : Nat → Int32) : Int64 := lp (qcyl st) 6 0 (lp (qtrk st) 24 0 (mx2 (lp (fun w a => mx2 a (cnt w)) 13 0 3559) (st 2)))
def qdig2 (st : Nat → Int32) (a : Int64) : Int64 := (31 : Int64) * ((31 : Int64) * (mx2 (mx2 (mx2 (mx2 a (qwb st 0 4 2)) (qwb st 4 9 2)) (qwb st 9 0 2)) (qn (qct st))) + ((qmean st).toInt32).toInt64) + (qshare st).toInt64
theorem d_b6 {μ : Mm} : ∀ (m w n : Nat) (a : Int64), w + m = 13 → m < n → f_X3_digest_b6 n a (nI w) μ = f_X3_digest_b41 z_F (mx2 (lp (fun w a => mx2 a (qcount μ w)) m w a) (V μ 0 2)) 0 μ := by
  intro m
  induction m with
  | zero =>
    intro w n a hw hn
    obtain ⟨n, rfl⟩ : ∃ q, n = q + 1 := ⟨n - 1, by omega⟩
    rw [f_X3_digest_b6, if_pos (show (13 : Int32) ≤ nI w from ple (a := 13) (by omega) (by omega)), show f_X3_setting μ = some (V μ 0 2, μ) from rfl, zb_of rfl, c_mx, zb_of rfl]
    rfl
  | succ m ih =>
    intro w n a hw hn
    obtain ⟨n, rfl⟩ : ∃ q, n = q + 1 := ⟨n - 1, by omega⟩
    rw [f_X3_digest_b6, if_neg (show ¬ (13 : Int32) ≤ nI w from pge (b := 13) (by omega) (by omega)), c_count (by omega), zbn_of rfl, c_mx, zb_of rfl, pa1]
    exact ih (w + 1) n _ (by omega) (by omega)
theorem d_digest {μ : Mm} (hJ : J μ) {n : Nat} (hT : JT μ n) : ∃ ν : Mm, f_X3_digest μ = some (qtail (jf μ n) n (μ 92 0) (μ 92 1) (qdig2 (V μ 0) (qdig1 (V μ 0) (qcount μ))), ν) ∧ DG μ ν := by
  have hN := hJ.1.2.1
  have hD := hJ.1.2.2
  obtain ⟨ν, e, hG⟩ := d_b41 hN hD 24 0 z_F (mx2 (lp (fun w a => mx2 a (qcount μ w)) 13 0 3559) (V μ 0 2)) μ rfl (by decide) ⟨fun _ _ => rfl, hJ.2.2.2.2⟩
  have hV := hG.V
  have hDν : Bd (V ν 0) := by rw [hV]; exact hD
  have hF := okF_s (qmean_ok hDν)
  have hS := okD_s (qshare_ok hDν)
  have hTν : TX ν (jf μ n) n := hT.tx.kept (hG.1 _ (by decide)) (hG.1 _ (by decide))
  refine ⟨ν, ?_, hG⟩
  unfold f_X3_digest
  rw [show f_X3_digest_b6 z_F 3559 0 μ = _ from d_b6 13 0 z_F 3559 rfl (by decide), show f_X3_digest_b41 z_F _ 0 μ = _ from e, show f_X3_digest_b62 z_F _ 0 ν = _ from d_b62 6 0 z_F _ rfl (by decide)]
  rw [show (1 : Nat) = 0 + 1 from rfl, f_X3_digest_b62, if_pos (by decide), show f_X3_ifCopied 0 4 2 ν = some (.inr (qwb (V ν 0) 0 4 2), ν) from c_wb (f := 0) (t := 4) (by decide) (by decide) (by decide), zbn_of rfl, c_mx, zb_of rfl, show f_X3_ifCopied 4 9 2 ν = some (.inr (qwb (V ν 0) 4 9 2), ν) from c_wb (f := 4) (t := 9) (by decide) (by decide) (by decide), zbn_of rfl, c_mx, zb_of rfl, show f_X3_ifCopied 9 0 2 ν = some (.inr (qwb (V ν 0) 9 0 2), ν) from c_wb (f := 9) (t := 0) (by decide) (by decide) (by decide), zbn_of rfl, c_mx, zb_of rfl]
  rw [show f_X3_clearest ν = some (qn (qct (V ν 0)), ν) by unfold f_X3_clearest; rw [c_ct, zb_of rfl], zb_of rfl, c_mx, zb_of rfl, c_mean hDν, zb_of rfl, if_pos hF.2.1, qbits_eq hF.2.2.2, zb_of rfl, c_mx, zb_of rfl, c_share hDν, zb_of rfl, qbits_eq hS.2.2, zb_of rfl, c_mx, zb_of rfl, d_b189 hTν, hV, hG.1 92 (by decide)]
  rfl
