/-! p30, PURE: what would be is what is when it is done; undo takes it back -/
theorem qcr_pos {a : Nat → Int32} {f t : Nat} {l : Int32} (h : ¬ qcr a f t l = 0) : ¬ 0 ≤ - qcr a f t l := by
  obtain ⟨k, hk, hk3, e⟩ := of_b (B := 5) (qcr_b a f t l)
  rw [e] at h ⊢
  rcases (show k = 0 ∨ k = 1 ∨ k = 2 ∨ k = 3 ∨ k = 4 ∨ k = 5 by omega) with rfl | rfl | rfl | rfl | rfl | rfl
  · exact absurd rfl h
  all_goals decide
theorem ct_cut {a : Nat → Int32} {t : Nat} {d c f g m by_ : Int32} {k : Nat} (hk : k < 10) : b_cut a t d c f g m by_ k (22 + 7 * t) = d ∧ b_cut a t d c f g m by_ k (22 + 7 * t + 1) = c ∧ b_cut a t d c f g m by_ k (22 + 7 * t + 3) = g ∧ b_cut a t d c f g m by_ k (22 + 7 * t + 4) = m ∧ b_cut a t d c f g m by_ k (22 + 7 * t + 6) = 0 := by
  unfold b_cut
  refine ⟨?_, ?_, ?_, ?_, ?_⟩ <;> simp (disch := omega) only [upd_s, upd_n]
theorem co_cut {a : Nat → Int32} {t : Nat} {d c f g m by_ : Int32} {k : Nat} (hk : k < 10) {s w : Nat} (hs : s ≠ t) (hw : w < 7) : b_cut a t d c f g m by_ k (22 + 7 * s + w) = a (22 + 7 * s + w) := by
  unfold b_cut
  simp (disch := omega) only [upd_n]
theorem cj_cut {a : Nat → Int32} {t : Nat} {d c f g m by_ : Int32} {k : Nat} {j : Nat} (hj : 2 ≤ j ∧ j < 22) (hjk : j ≠ k) : b_cut a t d c f g m by_ k j = a j := by
  unfold b_cut
  simp (disch := omega) only [upd_n]
theorem dau_more {a b : Nat → Int32} {f t : Nat} (ht : t < 24) (h0 : qmo a t = -1) (ho : ∀ j, j < 24 → j ≠ t → qmo b j = qmo a j) : cntB (dauB a f) 24 0 ≤ cntB (dauB b f) 24 0 := by
  have hw : ∀ (m : Nat) (x : Int32), ¬ qway (qmo a) m x f = 0 → ¬ qway (qmo b) m x f = 0 := by
    intro m
    induction m with
    | zero => intro x h; exact absurd rfl h
    | succ m ih =>
      intro x h
      rw [qway] at h ⊢
      by_cases h1 : x < 0
      · rw [if_pos h1] at h; exact absurd rfl h
      · rw [if_neg h1] at h ⊢
        by_cases h2 : 24 ≤ x
        · rw [if_pos h2] at h; exact absurd rfl h
        · rw [if_neg h2] at h ⊢
          by_cases h3 : x = nI f
          · rw [if_pos h3]; decide
          · rw [if_neg h3] at h ⊢
            by_cases hxt : x.toNatClampNeg = t
            · rw [hxt, h0] at h
              exfalso
              apply h
              cases m with
              | zero => rfl
              | succ m => rw [qway, if_pos (by decide)]
            · have hx24 : x.toNatClampNeg < 24 := by
                rcases pcase x with q | ⟨u, hu, rfl⟩
                · exact absurd q h1
                · rw [pcl hu]
                  exact Classical.byContradiction fun q => h2 (ple (a := 24) (by omega) hu)
              rw [ho _ hx24 hxt]
              exact ih _ h
  refine cnt_le 24 0 (fun j _ hj hp => ?_)
  obtain ⟨p1, p2⟩ := dauB_t.mp hp
  by_cases hjt : j = t
  · rw [hjt, h0] at p2
    exact absurd (by rw [qway, if_pos (by decide)]) p2
  · refine dauB_t.mpr ⟨p1, ?_⟩
    rw [ho j (by omega) hjt]
    exact hw 24 _ p2
theorem sub1_nle {c c' : Nat} (h : c ≤ c') (h2 : c' < 1000) : ¬ nI c' ≤ nI c - 1 := fun q => by
  have e := i_sub (a := nI c) (b := 1) (by rw [nI_toInt (by omega), i_1]; omega) (by rw [nI_toInt (by omega), i_1]; omega)
  rw [i_le, e, nI_toInt (by omega), nI_toInt (by omega), i_1] at q
  omega
theorem copies_ok {n : Nat} (hn : n < 100) {μ : Mm} (h : Lw n μ) {f t : Nat} (hf : f < 24) (ht : t < 24) {l : Int32} (hl : 1 ≤ l ∧ l ≤ 3) : ∃ ν : Mm, f_L_copies (nI f) (nI t) l μ = some (1, ν) ∧ Lw n ν := by
  obtain ⟨⟨s, hd⟩, hI⟩ := id h
  have w1 : f_L_ifCopied (nI f) (nI t) l μ = some (qwb (V μ 0) f t l, μ) := l_wb hf ht hl
  have w2 : f_L_daughters (nI f) μ = some (qdau (V μ 0) f, μ) := l_dau hI.nrm hf
  have w3 : f_L_count 11 μ = some (V μ 0 9, μ) := l_num (w := 11) (by decide)
  have w4 : f_L_count 5 μ = some (V μ 0 4, μ) := l_num (w := 5) (by decide)
  obtain ⟨ν, w6, hV, hdν⟩ := op_copy hf ht hl μ s [] hd (by decide)
  have w6 : f_L_copy (nI f) (nI t) l μ = some (qcr (V μ 0) f t l, ν) := w6
  have hV : V ν 0 = acopy (V μ 0) f t l := hV
  obtain ⟨ρ, e, h1, h2⟩ := tail_c hdν
  refine ⟨ρ, ?_, h.of h2 h1⟩
  have v3 : f_L_count 11 ν = some (V ν 0 9, ν) := l_num (w := 11) (by decide)
  have v4 : f_L_count 5 ν = some (V ν 0 4, ν) := l_num (w := 5) (by decide)
  unfold f_L_copies
  rw [w1, zb_of rfl, w2, zb_of rfl, w3, zb_of rfl, w4, zb_of rfl, l_print, zb_of rfl, w6, zb_of rfl]
  by_cases hq : qcr (V μ 0) f t l = 0
  · have hIν : Iv (n + 1) (V ν 0) := by rw [hV]; exact hI.copy (by omega) hf ht hl.1
    obtain ⟨q1, q2, q3, q4, q5⟩ := qcr_0 hq
    have hft : f ≠ t := fun e => q3 (by rw [e])
    have ea : V ν 0 = b_cut (V μ 0) t (qcd (V μ 0 (22 + 7 * f)) l) (qcl (V μ 0) f l) (if V μ 0 (22 + 7 * f + 2) + qfl (V μ 0) < 20 then V μ 0 (22 + 7 * f + 2) + qfl (V μ 0) else 20) (V μ 0 (22 + 7 * f + 3) + 1) (nI f) 20 4 := by rw [hV]; unfold acopy; rw [if_pos hq]
    have hct := fun {d c f g m by_ : Int32} => ct_cut (a := V μ 0) (t := t) (d := d) (c := c) (f := f) (g := g) (m := m) (by_ := by_) (k := 4) (by decide)
    have b0 : V ν 0 (22 + 7 * t) = qcd (V μ 0 (22 + 7 * f)) l := by rw [ea]; exact hct.1
    have b1 : V ν 0 (22 + 7 * t + 1) = qcl (V μ 0) f l := by rw [ea]; exact hct.2.1
    have b3 : V ν 0 (22 + 7 * t + 3) = V μ 0 (22 + 7 * f + 3) + 1 := by rw [ea]; exact hct.2.2.1
    have b4 : V ν 0 (22 + 7 * t + 4) = nI f := by rw [ea]; exact hct.2.2.2.1
    have b6 : V ν 0 (22 + 7 * t + 6) = 0 := by rw [ea]; exact hct.2.2.2.2
    have bo : ∀ s w, s ≠ t → w < 7 → V ν 0 (22 + 7 * s + w) = V μ 0 (22 + 7 * s + w) := fun s w h1 h2 => by rw [ea]; exact co_cut (by decide) h1 h2
    have bj9 : V ν 0 9 = V μ 0 9 := by rw [ea]; exact cj_cut (by decide) (by decide)
    have bj4 : V ν 0 4 = V μ 0 4 + 1 := by rw [ea]; unfold b_cut; rw [upd_s]
    have hcν : ¬ qcut (V ν 0) t = 0 := by rw [qcut_z, b0]; have := qcd_b (V μ 0 (22 + 7 * f)) l; omega
    have hcf : ¬ qcut (V ν 0) f = 0 := by rw [qcut_of (b := V μ 0) (bo f 0 hft (by decide))]; exact q1
    have ewb : qwb (V μ 0) f t l = qcl (V μ 0) f l := by unfold qwb; rw [if_pos hq]
    have hcl : 0 ≤ (qcl (V μ 0) f l).toInt := qcc_0 _ _ _ _
    have t1 : f_L_trackOf (nI t) 1 ν = some (qtp (V ν 0) t 1, ν) := l_tp ht (by decide)
    have t4 : f_L_trackOf (nI t) 4 ν = some (qtp (V ν 0) t 4, ν) := l_tp ht (by decide)
    have t3 : f_L_trackOf (nI t) 3 ν = some (qtp (V ν 0) t 3, ν) := l_tp ht (by decide)
    have t6 : f_L_trackOf (nI t) 6 ν = some (qtp (V ν 0) t 6, ν) := l_tp ht (by decide)
    have u3 : f_L_trackOf (nI f) 3 ν = some (qtp (V ν 0) f 3, ν) := l_tp hf (by decide)
    have vd : f_L_daughters (nI f) ν = some (qdau (V ν 0) f, ν) := l_dau hIν.nrm hf
    have hmore : cntB (dauB (V μ 0) f) 24 0 ≤ cntB (dauB (V ν 0) f) 24 0 := dau_more ht (by unfold qmo; rw [if_pos q2]) (fun j _ hjt => qmo_of (bo j 0 hjt (by decide)) (bo j 4 hjt (by decide)))
    have hbd := cnt_bd (dauB (V ν 0) f) 24 0
    rw [if_pos hq, ewb, if_neg (fun q => by rw [i_lt, i_0] at q; omega), t1, zb_of rfl, qtp_c hcν, if_pos b1, t4, zb_of rfl, qtp_c hcν, if_pos b4, t3, zb_of rfl, u3, zb_of rfl, qtp_c hcν, qtp_c hcf, if_pos (by rw [b3, bo f 3 hft (by decide)]), v4, zb_of rfl, if_pos bj4, v3, zb_of rfl, if_pos bj9, vd, zb_of rfl, qdau_n, qdau_n, if_neg (sub1_nle hmore (by omega)), t6, zb_of rfl, qtp_c hcν, if_pos b6]
    exact e
  · have ea : V ν 0 = b_ref (V μ 0) := by rw [hV]; unfold acopy; rw [if_neg hq]
    have ewb : qwb (V μ 0) f t l = - qcr (V μ 0) f t l := by unfold qwb; rw [if_neg hq]
    have bj9 : V ν 0 9 = V μ 0 9 + 1 := by rw [ea]; unfold b_ref; rw [upd_s]
    have bj4 : V ν 0 4 = V μ 0 4 := by rw [ea]; unfold b_ref; rw [upd_n (by decide)]
    rw [if_neg hq, ewb, if_neg (qcr_pos hq), if_pos (Int32.neg_neg).symm, v3, zb_of rfl, if_pos bj9, v4, zb_of rfl, if_pos bj4]
    exact e
theorem speaks_ok {n : Nat} (hn : n < 100) {μ : Mm} (h : Lw n μ) {t : Nat} (ht : t < 24) {l : Int32} (hl : 1 ≤ l ∧ l ≤ 9) : ∃ ν : Mm, f_L_speaks (nI t) l μ = some (1, ν) ∧ Lw n ν := by
  obtain ⟨⟨s, hd⟩, hI⟩ := id h
  have w1 : f_L_whyNot (nI t) l μ = some (qsr (V μ 0) t l, μ) := l_why ht hl
  have w3 : f_L_count 1 μ = some (V μ 0 1, μ) := l_num (w := 1) (by decide)
  obtain ⟨ν, w6, hV, hdν⟩ := op_speak ht hl μ s [] hd (by decide)
  have w6 : f_L_speak (nI t) l μ = some (qsr (V μ 0) t l, ν) := w6
  have hV : V ν 0 = aspeak (V μ 0) t l := hV
  obtain ⟨ρ, e, h1, h2⟩ := tail_s hdν
  refine ⟨ρ, ?_, h.of h2 h1⟩
  have v1 : f_L_count 1 ν = some (V ν 0 1, ν) := l_num (w := 1) (by decide)
  have t0 : f_L_trackOf (nI t) 0 ν = some (qtp (V ν 0) t 0, ν) := l_tp ht (by decide)
  have t3 : f_L_trackOf (nI t) 3 ν = some (qtp (V ν 0) t 3, ν) := l_tp ht (by decide)
  have vw : f_L_whyNot (nI t) l ν = some (qsr (V ν 0) t l, ν) := l_why ht hl
  have hb := qsr_b (V μ 0) t l
  unfold f_L_speaks
  rw [w1, zb_of rfl, l_print, zb_of rfl, w3, zb_of rfl, w6, zb_of rfl, if_pos rfl]
  by_cases hq : qsr (V μ 0) t l = 0
  · have ea : V ν 0 = b_cut (V μ 0) t l (40 + 5 * l - (100 - V μ 0 0) / 4) (qfl (V μ 0)) 0 (-1) 10 3 := by rw [hV]; unfold aspeak; rw [if_pos hq]
    have hct := fun {d c f g m by_ : Int32} => ct_cut (a := V μ 0) (t := t) (d := d) (c := c) (f := f) (g := g) (m := m) (by_ := by_) (k := 3) (by decide)
    have b0 : V ν 0 (22 + 7 * t) = l := by rw [ea]; exact hct.1
    have b3 : V ν 0 (22 + 7 * t + 3) = 0 := by rw [ea]; exact hct.2.2.1
    have b1 : V ν 0 1 = V μ 0 1 - 10 := by rw [ea]; unfold b_cut; simp (disch := omega) only [upd_s, upd_n]
    have hcν : ¬ qcut (V ν 0) t = 0 := by
      have := hl.1
      rw [i_le, i_1] at this
      rw [qcut_z, b0]; omega
    rw [if_pos (show qsr (V μ 0) t l ≤ 0 by rw [hq]; decide), t0, zb_of rfl, qtp_0, if_pos b0, t3, zb_of rfl, qtp_c hcν, if_pos b3, v1, zb_of rfl, if_pos b1, vw, zb_of rfl, if_pos (by unfold qsr; rw [if_neg hcν])]
    exact e
  · have ea : V ν 0 = b_ref (V μ 0) := by rw [hV]; unfold aspeak; rw [if_neg hq]
    have b0 : V ν 0 (22 + 7 * t) = V μ 0 (22 + 7 * t) := by rw [ea]; unfold b_ref; rw [upd_n (by omega)]
    have hq0 : ¬ qsr (V μ 0) t l ≤ 0 := fun q => hq (by rw [i_le, i_0] at q; rw [i_eq, i_0]; omega)
    rw [if_neg hq0, t0, zb_of rfl, qtp_0]
    by_cases hc : qcut (V μ 0) t = 0
    · have hz : V ν 0 (22 + 7 * t) = 0 := by
        rw [b0, i_eq, i_0]
        have := qcut_z.mp hc
        have := (hI.1 t ht).1
        omega
      rw [if_pos hz]; exact e
    · have hz : ¬ V ν 0 (22 + 7 * t) = 0 := fun q => by
        have := qcut_pos' hc
        rw [b0] at q
        rw [q, i_0] at this
        omega
      rw [if_neg hz, if_pos (by unfold qsr; rw [if_neg hc])]; exact e
theorem shaves_ok {n : Nat} (hn : n < 100) {μ : Mm} (h : Lw n μ) {c : Nat} (hc : c < 6) : ∃ ν : Mm, f_L_shaves (nI c) μ = some (1, ν) ∧ Lw n ν := by
  obtain ⟨⟨s, hd⟩, hI⟩ := id h
  have w1 : f_L_cylinderOf (nI c) 2 μ = some (qdeep (V μ 0) c, μ) := by rw [← qcp_2]; exact l_cp (w := 2) hc (by decide)
  have w2 : f_L_cylinderOf (nI c) 0 μ = some (V μ 0 (10 + 2 * c), μ) := l_cp (w := 0) hc (by decide)
  have w3 : f_L_count 8 μ = some (V μ 0 6, μ) := l_num (w := 8) (by decide)
  obtain ⟨ν, w6, hV, hdν⟩ := op_shave hc μ s [] hd (by decide)
  have w6 : f_L_shave (nI c) μ = some (qshave (V μ 0) c, ν) := w6
  have hV : V ν 0 = ashave (V μ 0) c := hV
  obtain ⟨ρ, e1, e2, h1, h2⟩ := back_ok hdν
  refine ⟨ρ, ?_, h.of h2 h1⟩
  have v2 : f_L_cylinderOf (nI c) 0 ν = some (V ν 0 (10 + 2 * c), ν) := l_cp (w := 0) hc (by decide)
  have v3 : f_L_count 8 ν = some (V ν 0 6, ν) := l_num (w := 8) (by decide)
  have v4 : f_L_cylinderOf (nI c) 1 ν = some (qcuton (V ν 0) c, ν) := by rw [← qcp_1]; exact l_cp (w := 1) hc (by decide)
  obtain ⟨d1, d2, d3, d4⟩ := qdeep_b hI hc
  have fin : ∀ y : Int32, qshave (V μ 0) c = y → V ν 0 (10 + 2 * c) = V μ 0 (10 + 2 * c) - qdeep (V μ 0) c → V ν 0 6 = V μ 0 6 + qdeep (V μ 0) c → qcuton (V ν 0) c = 0 → f_L_shaves_b46 (nI c) (qdeep (V μ 0) c) (V μ 0 (10 + 2 * c)) (V μ 0 6) (qprint (V μ 0)) y (qshave (V μ 0) c) ν = some (1, ρ) := fun y hy ha hb hz => by
    unfold f_L_shaves_b46
    rw [if_pos hy, v2, zb_of rfl, if_pos ha, v3, zb_of rfl, if_pos hb, v4, zb_of rfl, if_pos hz, e1, zb_of rfl, if_neg (s1_nn hdν.2.1), e2, zb_of rfl, if_pos ((lg_cmp_eq _ _).mpr rfl)]
  unfold f_L_shaves
  rw [w1, zb_of rfl, w2, zb_of rfl, w3, zb_of rfl, l_print, zb_of rfl, w6, zb_of rfl]
  by_cases hq : qdeep (V μ 0) c = 0
  · have ea : V ν 0 = b_ref (V μ 0) := by rw [hV]; unfold ashave; rw [if_pos hq]
    rw [if_pos hq]
    refine fin _ (by unfold qshave; rw [if_pos hq]) ?_ ?_ ?_
    · rw [hq, Int32.sub_zero, ea]; unfold b_ref; rw [upd_n (by omega)]
    · rw [hq, Int32.add_zero, ea]; unfold b_ref; rw [upd_n (by decide)]
    · rw [qcuton_n, cnt_z2 4 (4 * c) (fun j h1 h2 => Bool.eq_false_iff.mpr (fun q => (cutB_t.mp q) (by
        rw [qcut_z, ea]
        unfold b_ref
        rw [upd_n (by omega)]
        have := d3 j (by omega)
        rw [hq, i_0] at this
        exact this)))]
      rfl
  · have ea : V ν 0 = b_sm (ash (V μ 0) c (qdeep (V μ 0) c)) c := by rw [hV]; unfold ashave; rw [if_neg hq]
    rw [if_neg hq]
    refine fin _ (by unfold qshave; rw [if_neg hq]) ?_ ?_ ?_
    · rw [ea, sm_j _ c (by omega)]; unfold ash; simp (disch := omega) only [upd_s, upd_n]
    · rw [ea, sm_j _ c (by decide)]; unfold ash; simp (disch := omega) only [upd_s, upd_n]
    · rw [qcuton_n, cnt_z2 4 (4 * c) (fun j h1 h2 => Bool.eq_false_iff.mpr (fun q => (cutB_t.mp q) (by
        rw [qcut_z, ea, (sm_t _ (show j / 4 = c by omega)).1, i_0]
        exact Int.le_refl _)))]
      rfl
