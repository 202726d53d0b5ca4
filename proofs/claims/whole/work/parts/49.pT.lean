/-! PURE: the texts of orders, the reference's reading of the longer ones -/
theorem tk_ne {x lo hi : Int32} (h0 : 0 ≤ lo.toInt) (h : lo ≤ x ∧ x ≤ hi) : ¬ x - lo = -1 := fun q => by
  have h1 := h.1
  rw [i_le] at h1
  have hx := Int32.toInt_lt x
  have e := i_sub (a := x) (b := lo) (by omega) (by omega)
  rw [q, show (-1 : Int32).toInt = -1 by decide] at e
  omega
theorem ord_s {μ : Mm} {f : Nat → Int32} {n p : Nat} (h : PS μ f n p) (hc : f p = 115) : ORD μ f p := by
  have hp := lt_of_ne h hc (by decide)
  have hk : fk (f p) = 0 := by rw [hc]; rfl
  have hl : oln f p = 5 := by unfold oln; rw [hk]; rfl
  have h0 : fok 115 (f p) := by rw [hc]; decide
  have ho : ort f p = (if fok 115 (f p) then 1 + (if fok 65 (f (p + 1)) then 1 + (if fok 68 (f (p + 2)) then 1 + (if fok 61 (f (p + 3)) then 1 + (if fok 78 (f (p + 4)) then 1 + 0 else 0) else 0) else 0) else 0) else 0) := by unfold ort; rw [hk]; rfl
  rw [if_pos h0] at ho
  have P1 := h.pos (q := p + 1) hp
  have e1 : f_X4_order μ = _ := ord_c h hp
  rw [hc] at e1
  unfold f_X4_order_b25 at e1
  rw [if_neg (by decide), if_neg (by decide), if_pos rfl, h.1, pa1, m_rt P1] at e1
  by_cases hA : fok 65 (f (p + 1))
  · rw [if_pos hA] at e1 ho
    by_cases hB : fok 68 (f (p + 2))
    · have hp2 : p + 2 < n := h.lt (lo := 48) (hi := 51) (by decide) hB
      have P3 := (P1.pos (q := p + 3) hp2).up (k := 7) (x := nI (otk f (p + 1))) (by decide)
      rw [if_pos (show fok 68 (f (p + 1 + 1)) from hB), zb_of rfl, z_up_s, upd_s, if_neg (pneg (by have := otk_b hA hB; omega)), show p + 1 + 2 = p + 3 from rfl, m_takes P3 (by decide)] at e1
      rw [if_pos hB] at ho
      by_cases hC : fok 61 (f (p + 3))
      · have hp3 : p + 3 < n := h.lt (lo := 61) (hi := 61) (by decide) hC
        have P4 := P3.pos (q := p + 4) hp3
        rw [if_pos (show (61 : Int32) ≤ f (p + 3) ∧ f (p + 3) ≤ 61 from hC), zb_of rfl, if_neg (tk_ne (by decide) (show (61 : Int32) ≤ f (p + 3) ∧ f (p + 3) ≤ 61 from hC)), show p + 3 + 1 = p + 4 from rfl, m_takes P4 (by decide)] at e1
        rw [if_pos hC] at ho
        by_cases hD : fok 78 (f (p + 4))
        · rw [if_pos (show (49 : Int32) ≤ f (p + 4) ∧ f (p + 4) ≤ 57 from hD), zb_of rfl, z_up_s, upd_s, if_neg (tk_ne (by decide) (show (49 : Int32) ≤ f (p + 4) ∧ f (p + 4) ≤ 57 from hD)), if_pos (show narrow .char (.int 115) = .int 115 from rfl)] at e1
          rw [if_pos hD] at ho
          have hw : owh f p := ⟨by omega, by omega⟩
          refine ⟨_, by rw [if_pos hw, hc]; exact e1, ?_, fun _ => ⟨fun q => ?_, fun q => ?_, fun q => ?_, fun q => ?_⟩⟩
          · rw [ho]; exact ((((ORf.rf h.1).pos.pos.up (by decide)).pos (q' := p + 4)).pos).up (by decide)
          · rw [hc] at q; exact absurd q (by decide)
          · rw [hc] at q; exact absurd q (by decide)
          · constructor
            · rw [z_up_s, upd_n (by decide), z_up_s, upd_n (by decide), z_up_s, upd_n (by decide), z_up_s, upd_s]
            · rw [z_up_s, upd_s]
          · rw [hc] at q; exact absurd q (by decide)
        · rw [if_neg (show ¬ ((49 : Int32) ≤ f (p + 4) ∧ f (p + 4) ≤ 57) from hD), zb_of rfl, z_up_s, upd_s, if_pos rfl] at e1
          rw [if_neg hD] at ho
          exact ord_fail e1 ((((ORf.rf h.1).pos.pos.up (by decide)).pos).up (by decide)) ho (by omega)
      · rw [if_neg (show ¬ ((61 : Int32) ≤ f (p + 3) ∧ f (p + 3) ≤ 61) from hC), zb_of rfl, if_pos rfl, z_up_s, upd_s, if_pos rfl] at e1
        rw [if_neg hC] at ho
        exact ord_fail e1 (((ORf.rf h.1).pos.pos.up (by decide)).up (by decide)) ho (by omega)
    · rw [if_neg (show ¬ fok 68 (f (p + 1 + 1)) from hB), zb_of rfl, z_up_s, upd_s, if_pos rfl, z_up_s, upd_s, if_pos rfl] at e1
      rw [if_neg hB] at ho
      exact ord_fail e1 (((ORf.rf h.1).pos.pos.up (by decide)).up (by decide)) ho (by omega)
  · rw [if_neg hA, zb_of rfl, z_up_s, upd_s, if_pos rfl, z_up_s, upd_s, if_pos rfl] at e1
    rw [if_neg hA] at ho
    exact ord_fail e1 (((ORf.rf h.1).pos.up (by decide)).up (by decide)) ho (by omega)
/-- the end of a copy's order, without a second track -/
theorem ord184n {μ : Mm} (x : Int32) : f_X4_order_b184 x (-1) μ = some (32, z_up (z_up μ 119 8 (-1)) 119 9 (-1)) := by
  unfold f_X4_order_b184
  rw [z_up_s, upd_s, if_pos rfl, z_up_s, upd_s, if_pos rfl]
theorem ord_cc {μ : Mm} {f : Nat → Int32} {n p : Nat} (h : PS μ f n p) (hc : f p = 99) : ORD μ f p := by
  have hp := lt_of_ne h hc (by decide)
  have hk : fk (f p) = 1 := by rw [hc]; rfl
  have hl : oln f p = 8 := by unfold oln; rw [hk]; rfl
  have h0 : fok 99 (f p) := by rw [hc]; decide
  have ho : ort f p = (if fok 99 (f p) then 1 + (if fok 65 (f (p + 1)) then 1 + (if fok 68 (f (p + 2)) then 1 + (if fok 62 (f (p + 3)) then 1 + (if fok 65 (f (p + 4)) then 1 + (if fok 68 (f (p + 5)) then 1 + (if fok 42 (f (p + 6)) then 1 + (if fok 86 (f (p + 7)) then 1 + 0 else 0) else 0) else 0) else 0) else 0) else 0) else 0) else 0) := by unfold ort; rw [hk]; rfl
  rw [if_pos h0] at ho
  have P1 := h.pos (q := p + 1) hp
  have e1 : f_X4_order μ = _ := ord_c h hp
  rw [hc] at e1
  unfold f_X4_order_b25 at e1
  rw [if_pos rfl, h.1, pa1, m_rt P1] at e1
  by_cases hA : fok 65 (f (p + 1))
  · rw [if_pos hA] at e1 ho
    by_cases hB : fok 68 (f (p + 2))
    · have hp2 : p + 2 < n := h.lt (lo := 48) (hi := 51) (by decide) hB
      have P3 := (P1.pos (q := p + 3) hp2).up (k := 7) (x := nI (otk f (p + 1))) (by decide)
      rw [if_pos (show fok 68 (f (p + 1 + 1)) from hB), zb_of rfl, z_up_s, upd_s, if_neg (pneg (by have := otk_b hA hB; omega)), show p + 1 + 2 = p + 3 from rfl, m_takes P3 (by decide)] at e1
      rw [if_pos hB] at ho
      by_cases hC : fok 62 (f (p + 3))
      · have hp3 : p + 3 < n := h.lt (lo := 62) (hi := 62) (by decide) hC
        have P4 := P3.pos (q := p + 4) hp3
        rw [if_pos (show (62 : Int32) ≤ f (p + 3) ∧ f (p + 3) ≤ 62 from hC), zb_of rfl, if_neg (tk_ne (by decide) (show (62 : Int32) ≤ f (p + 3) ∧ f (p + 3) ≤ 62 from hC)), show p + 3 + 1 = p + 4 from rfl, m_rt P4] at e1
        rw [if_pos hC] at ho
        by_cases hD : fok 65 (f (p + 4))
        · rw [if_pos hD] at e1 ho
          by_cases hE : fok 68 (f (p + 5))
          · have hp5 : p + 5 < n := h.lt (lo := 48) (hi := 51) (by decide) hE
            have P6 := (P4.pos (q := p + 6) hp5).up (k := 8) (x := nI (otk f (p + 4))) (by decide)
            rw [if_pos (show fok 68 (f (p + 4 + 1)) from hE), zb_of rfl] at e1
            unfold f_X4_order_b184 at e1
            rw [z_up_s, upd_s, if_neg (pneg (by have := otk_b hD hE; omega)), show p + 4 + 2 = p + 6 from rfl, m_takes P6 (by decide)] at e1
            rw [if_pos hE] at ho
            by_cases hF : fok 42 (f (p + 6))
            · have hp6 : p + 6 < n := h.lt (lo := 42) (hi := 42) (by decide) hF
              have P7 := P6.pos (q := p + 7) hp6
              rw [if_pos (show (42 : Int32) ≤ f (p + 6) ∧ f (p + 6) ≤ 42 from hF), zb_of rfl, if_neg (tk_ne (by decide) (show (42 : Int32) ≤ f (p + 6) ∧ f (p + 6) ≤ 42 from hF)), show p + 6 + 1 = p + 7 from rfl, m_takes P7 (by decide)] at e1
              rw [if_pos hF] at ho
              by_cases hG : fok 86 (f (p + 7))
              · rw [if_pos (show (49 : Int32) ≤ f (p + 7) ∧ f (p + 7) ≤ 51 from hG), zb_of rfl, z_up_s, upd_s, if_neg (tk_ne (by decide) (show (49 : Int32) ≤ f (p + 7) ∧ f (p + 7) ≤ 51 from hG)), if_pos (show narrow .char (.int 99) = .int 99 from rfl)] at e1
                rw [if_pos hG] at ho
                have hw : owh f p := ⟨by omega, by omega⟩
                refine ⟨_, by rw [if_pos hw, hc]; exact e1, ?_, fun _ => ⟨fun q => ?_, fun q => ?_, fun q => ?_, fun q => ?_⟩⟩
                · rw [ho]; exact (((((((ORf.rf h.1).pos.pos.up (by decide)).pos (q' := p + 4)).pos).up (by decide)).pos (q' := p + 7)).pos).up (by decide)
                · refine ⟨?_, ?_, ?_⟩
                  · rw [z_up_s, upd_n (by decide), z_up_s, upd_n (by decide), z_up_s, upd_n (by decide), z_up_s, upd_n (by decide), z_up_s, upd_n (by decide), z_up_s, upd_n (by decide), z_up_s, upd_s]
                  · rw [z_up_s, upd_n (by decide), z_up_s, upd_n (by decide), z_up_s, upd_n (by decide), z_up_s, upd_s]
                  · rw [z_up_s, upd_s]
                · rw [hc] at q; exact absurd q (by decide)
                · rw [hc] at q; exact absurd q (by decide)
                · rw [hc] at q; exact absurd q (by decide)
              · rw [if_neg (show ¬ ((49 : Int32) ≤ f (p + 7) ∧ f (p + 7) ≤ 51) from hG), zb_of rfl, z_up_s, upd_s, if_pos rfl] at e1
                rw [if_neg hG] at ho
                exact ord_fail e1 ((((((((ORf.rf h.1).pos.pos.up (by decide)).pos (q' := p + 4)).pos).up (by decide)).pos (q' := p + 7))).up (by decide)) ho (by omega)
            · rw [if_neg (show ¬ ((42 : Int32) ≤ f (p + 6) ∧ f (p + 6) ≤ 42) from hF), zb_of rfl, if_pos rfl, z_up_s, upd_s, if_pos rfl] at e1
              rw [if_neg hF] at ho
              exact ord_fail e1 ((((((ORf.rf h.1).pos.pos.up (by decide)).pos (q' := p + 4)).pos).up (by decide)).up (by decide)) ho (by omega)
          · rw [if_neg (show ¬ fok 68 (f (p + 4 + 1)) from hE), zb_of rfl, ord184n] at e1
            rw [if_neg hE] at ho
            exact ord_fail e1 ((((((ORf.rf h.1).pos.pos.up (by decide)).pos (q' := p + 4)).pos).up (by decide)).up (by decide)) ho (by omega)
        · rw [if_neg hD, zb_of rfl, ord184n] at e1
          rw [if_neg hD] at ho
          exact ord_fail e1 (((((ORf.rf h.1).pos.pos.up (by decide)).pos (q' := p + 4)).up (by decide)).up (by decide)) ho (by omega)
      · rw [if_neg (show ¬ ((62 : Int32) ≤ f (p + 3) ∧ f (p + 3) ≤ 62) from hC), zb_of rfl, if_pos rfl, ord184n] at e1
        rw [if_neg hC] at ho
        exact ord_fail e1 ((((ORf.rf h.1).pos.pos.up (by decide)).up (by decide)).up (by decide)) ho (by omega)
    · rw [if_neg (show ¬ fok 68 (f (p + 1 + 1)) from hB), zb_of rfl, z_up_s, upd_s, if_pos rfl, ord184n] at e1
      rw [if_neg hB] at ho
      exact ord_fail e1 ((((ORf.rf h.1).pos.pos.up (by decide)).up (by decide)).up (by decide)) ho (by omega)
  · rw [if_neg hA, zb_of rfl, z_up_s, upd_s, if_pos rfl, ord184n] at e1
    rw [if_neg hA] at ho
    exact ord_fail e1 ((((ORf.rf h.1).pos.up (by decide)).up (by decide)).up (by decide)) ho (by omega)
theorem ord_all {μ : Mm} {f : Nat → Int32} {n p : Nat} (h : PS μ f n p) : ORD μ f p := by
  by_cases h1 : f p = 99
  · exact ord_cc h h1
  · by_cases h2 : f p = 112
    · exact ord_p h h2
    · by_cases h3 : f p = 115
      · exact ord_s h h3
      · by_cases h4 : f p = 119
        · exact ord_w h h4
        · by_cases h5 : f p = 120
          · exact ord_x h h5
          · exact ord_none h (by unfold fk; rw [if_neg h1, if_neg h2, if_neg h3, if_neg h4, if_neg h5])
theorem ORf.PS {μ ν : Mm} {f : Nat → Int32} {n p q : Nat} (h : PS μ f n p) (ho : ORf μ ν q) (hq : q ≤ n) : Jvm.Pilot.CWaxCopiesLaw_law_r8460_65119f.PS ν f n q :=
  ⟨ho.2.2, by rw [ho.2.1 4 (by decide) (by decide) (by decide) (by decide)]; exact h.2.1, h.2.2.1, hq, fun j hj => by rw [ho.1 122 (by decide)]; exact h.2.2.2.2.1 j hj, h.2.2.2.2.2⟩
theorem ORf.tr {μ ν κ : Mm} {q q' : Nat} (h : ORf μ ν q) (h2 : ORf ν κ q') : ORf μ κ q' :=
  ⟨fun c hc => by rw [h2.1 c hc, h.1 c hc], fun j a b c d => by rw [h2.2.1 j a b c d, h.2.1 j a b c d], h2.2.2⟩
/-- a text's char is never a blank -/
theorem owh_ne {f : Nat → Int32} {p : Nat} (h : owh f p) : ¬ f p = 32 := fun q => by
  have h1 := h.1
  unfold oln at h1
  rw [q] at h1
  exact absurd h1 (by decide)
theorem m_err {f : Nat → Int32} {n : Nat} : ∀ (m p fu : Nat) (μ : Mm), PS μ f n p → n < p + m → m ≤ fu → ∃ ν : Mm, ∃ q : Nat, f_X4_error_b5 fu μ = some (if qok f n m p = true then -1 else nI (qfe f n m p), ν) ∧ ORf μ ν q := by
  intro m
  induction m with
  | zero => intro p fu μ h h1 h2; have := h.2.2.2.1; omega
  | succ m ih =>
    intro p fu μ h h1 h2
    obtain ⟨fu, rfl⟩ : ∃ q, fu = q + 1 := ⟨fu - 1, by omega⟩
    have hn := h.2.2.1
    have hpn := h.2.2.2.1
    have h9 := oln9 f p
    have h7 := ort_in h.2.2.2.2.2 hpn
    obtain ⟨ν, e, ho, _⟩ := ord_all h
    have P := ho.PS h h7
    rw [f_X4_error_b5, e, zb_of rfl]
    unfold qok qfe
    by_cases hw : owh f p
    · have hp : ¬ n ≤ p := fun q => by
        have h0 := hw.1
        unfold oln at h0
        rw [h.2.2.2.2.2 p q] at h0
        exact absurd h0 (by decide)
      rw [if_pos hw, if_neg (owh_ne hw), P.1, P.2.1, if_neg hp, if_neg hp, if_pos hw, if_pos hw, hw.2]
      rw [hw.2] at h7 P ho
      by_cases he : n ≤ p + oln f p
      · rw [if_pos (by rw [show p + oln f p = n by omega]), if_pos he, if_pos rfl]
        exact ⟨ν, _, rfl, ho⟩
      · rw [if_neg (fun q => by have := (pinj (by omega) (by omega)).mp q; omega), if_neg he, if_neg he, m_takes P (by decide)]
        by_cases hs : f (p + oln f p) = 59
        · rw [if_pos (show (59 : Int32) ≤ f (p + oln f p) ∧ f (p + oln f p) ≤ 59 by rw [hs]; decide), zb_of rfl, hs, if_neg (by decide), if_pos rfl, if_pos rfl]
          obtain ⟨κ, q, e2, ho2⟩ := ih (p + oln f p + 1) fu _ (P.pos (by omega)) (by omega) (by omega)
          exact ⟨κ, q, e2, (ho.pos).tr ho2⟩
        · rw [if_neg (fun q => hs (le_an q.2 q.1)), zb_of rfl, if_pos rfl, if_neg hs, if_neg hs, if_neg (by decide), P.1]
          exact ⟨ν, _, rfl, ho⟩
    · rw [if_neg hw, if_pos rfl, P.1, if_neg hw, if_neg hw]
      by_cases hp : n ≤ p
      · have h0 : ort f p = 0 := by unfold ort; rw [h.2.2.2.2.2 p hp]; rfl
        rw [if_pos hp, if_pos hp, if_neg (by decide), h0, show p + 0 = n by omega]
        exact ⟨ν, _, rfl, ho⟩
      · rw [if_neg hp, if_neg hp, if_neg (by decide)]
        exact ⟨ν, _, rfl, ho⟩
