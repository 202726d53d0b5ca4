/-! PURE: run -/
def qrA (f : Nat → Int32) (n : Nat) : Nat → Nat → (Nat → Int32) → Nat → Int32
  | 0, _, a => a
  | m + 1, p, a => if oF f p a = 0 then oA f p a else if n ≤ p + oln f p then oA f p a else qrA f n m (p + oln f p + 1) (oA f p a)
def qrD (f : Nat → Int32) (n : Nat) : Nat → Nat → (Nat → Int32) → Nat → Int32
  | 0, _, b => b
  | m + 1, p, b => if oF f p b = 0 then oD f p b else if n ≤ p + oln f p then oD f p b else qrD f n m (p + oln f p + 1) (oD f p b)
def qrC (f : Nat → Int32) (n : Nat) : Nat → Nat → (Nat → Int32) → Int32 → Int32
  | 0, _, _, acc => acc
  | m + 1, p, a, acc => if oF f p a = 0 then acc else if n ≤ p + oln f p then acc + 1 else qrC f n m (p + oln f p + 1) (oA f p a) (acc + 1)
/-- one order of a text that is whole -/
theorem qok_s {f : Nat → Int32} {n m p : Nat} (h : qok f n (m + 1) p = true) : p < n ∧ owh f p ∧ (n ≤ p + oln f p ∨ (¬ n ≤ p + oln f p ∧ f (p + oln f p) = 59 ∧ qok f n m (p + oln f p + 1) = true)) := by
  unfold qok at h
  by_cases h0 : n ≤ p
  · rw [if_pos h0] at h; exact absurd h (by decide)
  · rw [if_neg h0] at h
    by_cases hw : owh f p
    · rw [if_pos hw] at h
      refine ⟨by omega, hw, ?_⟩
      by_cases he : n ≤ p + oln f p
      · exact Or.inl he
      · rw [if_neg he] at h
        by_cases hs : f (p + oln f p) = 59
        · rw [if_pos hs] at h; exact Or.inr ⟨he, hs, h⟩
        · rw [if_neg hs] at h; exact absurd h (by decide)
    · rw [if_neg hw] at h; exact absurd h (by decide)
theorem qr_rel {f : Nat → Int32} {n : Nat} : ∀ (m p : Nat) (a b : Nat → Int32), qok f n m p = true → Rel a b → Rel (qrA f n m p a) (qrD f n m p b) := by
  intro m
  induction m with
  | zero => intro p a b h hR; exact hR
  | succ m ih =>
    intro p a b h hR
    obtain ⟨_, hw, hn⟩ := qok_s h
    have h1 := oRel hw hR
    unfold qrA qrD
    rw [← oFeq hw hR]
    by_cases h0 : oF f p a = 0
    · rw [if_pos h0, if_pos h0]; exact h1
    · rw [if_neg h0, if_neg h0]
      by_cases he : n ≤ p + oln f p
      · rw [if_pos he, if_pos he]; exact h1
      · rw [if_neg he, if_neg he]
        rcases hn with hn | ⟨_, _, hn⟩
        · exact absurd hn he
        · exact ih _ _ _ hn h1
theorem qr_hi {f : Nat → Int32} {n : Nat} : ∀ (m p : Nat) (b : Nat → Int32), qok f n m p = true → ∀ j, 190 ≤ j → qrD f n m p b j = b j := by
  intro m
  induction m with
  | zero => intro p b h j hj; rfl
  | succ m ih =>
    intro p b h j hj
    obtain ⟨_, hw, hn⟩ := qok_s h
    have h1 := oDhi hw b hj
    unfold qrD
    by_cases h0 : oF f p b = 0
    · rw [if_pos h0]; exact h1
    · rw [if_neg h0]
      by_cases he : n ≤ p + oln f p
      · rw [if_pos he]; exact h1
      · rw [if_neg he]
        rcases hn with hn | ⟨_, _, hn⟩
        · exact absurd hn he
        · rw [ih _ _ hn j hj]; exact h1
theorem TX.kept {μ ν : Mm} {f : Nat → Int32} {n : Nat} (h : TX μ f n) (h4 : ν 94 = μ 94) (h5 : ν 95 = μ 95) : TX ν f n :=
  ⟨by rw [h4]; exact h.1, h.2.1, fun j hj => by rw [h5]; exact h.2.2.1 j hj, h.2.2.2⟩
theorem c_dos {f : Nat → Int32} {n : Nat} : ∀ (m p fu : Nat) (acc : Int32) (W : Mm), qok f n m p = true → TX W f n → m + 1 < fu → ∃ W' : Mm, f_X3_doOrders_b4 fu acc (nI p) W = some (qrC f n m p (V W 0) acc, W') ∧ V W' 0 = qrA f n m p (V W 0) ∧ ∀ c, 10 ≤ c → W' c = W c := by
  intro m
  induction m with
  | zero => intro p fu acc W h _ _; exact absurd (show false = true from h) (by decide)
  | succ m ih =>
    intro p fu acc W h hT hf
    obtain ⟨fu, rfl⟩ : ∃ q, fu = q + 1 := ⟨fu - 1, by omega⟩
    obtain ⟨hp, hw, hn⟩ := qok_s h
    have hn60 := hT.2.1
    have h9 := oln9 f p
    obtain ⟨W1, a1, a2, a3⟩ := c_do hT (show p < 900 by omega) hw
    have hT1 : TX W1 f n := hT.kept (a3 _ (by decide)) (a3 _ (by decide))
    rw [f_X3_doOrders_b4, show f_X0_length W = some (nI n, W) by unfold f_X0_length; rw [hT.1], zb_of rfl, if_neg (pge hp (by omega)), a1, zb_of rfl]
    unfold qrA qrC
    by_cases h0 : oF f p (V W 0) = 0
    · rw [if_pos h0, if_pos h0, if_pos h0]
      exact ⟨W1, rfl, a2, a3⟩
    · rw [if_neg h0, if_neg h0, if_neg h0, c_fln hT1 (by omega), zb_of rfl, pa1, padd]
      by_cases he : n ≤ p + oln f p
      · rw [if_pos he, if_pos he]
        obtain ⟨fu, rfl⟩ : ∃ q, fu = q + 1 := ⟨fu - 1, by omega⟩
        refine ⟨W1, ?_, a2, a3⟩
        rw [f_X3_doOrders_b4, show f_X0_length W1 = some (nI n, W1) by unfold f_X0_length; rw [hT1.1], zb_of rfl, if_pos (ple (by omega) (by omega))]
      · rw [if_neg he, if_neg he]
        rcases hn with hn | ⟨_, _, hn⟩
        · exact absurd hn he
        · obtain ⟨W2, b1, b2, b3⟩ := ih (p + oln f p + 1) fu (acc + 1) W1 hn hT1 (by omega)
          refine ⟨W2, ?_, by rw [b2, a2], fun c hc => by rw [b3 c hc, a3 c hc]⟩
          rw [← a2]
          exact b1
theorem m_run36 {f : Nat → Int32} {n : Nat} : ∀ (m p fu : Nat) (acc : Int32) (Y : Mm) (a : Nat → Int32), qok f n m p = true → PS Y f n p → Rel a (Y 120) → m < fu → ∃ Y' : Mm, f_X4_run_b36 fu acc 1 Y = some (qrC f n m p a acc, Y') ∧ Y' 120 = qrD f n m p (Y 120) ∧ (∀ c, c ≠ 119 → c ≠ 120 → Y' c = Y c) ∧ (∀ k, k ≠ 4 → k ≠ 6 → k ≠ 7 → k ≠ 8 → k ≠ 9 → Y' 119 k = Y 119 k) ∧ Y' 119 4 = 0 := by
  intro m
  induction m with
  | zero => intro p fu acc Y a h _ _ _; exact absurd (show false = true from h) (by decide)
  | succ m ih =>
    intro p fu acc Y a h hP hR hf
    obtain ⟨fu, rfl⟩ : ∃ q, fu = q + 1 := ⟨fu - 1, by omega⟩
    obtain ⟨hp, hw, hn⟩ := qok_s h
    have h7 := ort_in hP.2.2.2.2.2 (show p ≤ n by omega)
    obtain ⟨ν, e, ho, hA⟩ := ord_all hP
    rw [if_pos hw] at e
    rw [hw.2] at h7 ho
    have h120 : ν 120 = Y 120 := ho.1 120 (by decide)
    obtain ⟨Y1, a1, a2, a3⟩ := m_do hw (hA hw) (by rw [h120]; exact hR)
    rw [h120] at a2
    have hP1 : PS Y1 f n (p + oln f p) := by
      have := ho.PS hP h7
      exact ⟨by rw [a3 119 (by decide)]; exact this.1, by rw [a3 119 (by decide)]; exact this.2.1, this.2.2.1, this.2.2.2.1, fun j hj => by rw [a3 122 (by decide)]; exact this.2.2.2.2.1 j hj, this.2.2.2.2.2⟩
    have kc : ∀ c, c ≠ 119 → c ≠ 120 → Y1 c = Y c := fun c c1 c2 => by rw [a3 c c2, ho.1 c c1]
    have kk : ∀ k, k ≠ 6 → k ≠ 7 → k ≠ 8 → k ≠ 9 → Y1 119 k = Y 119 k := fun k k6 k7 k8 k9 => by rw [a3 119 (by decide), ho.2.1 k k6 k7 k8 k9]
    have fin : ∀ (fu : Nat) (acc : Int32), 0 < fu → f_X4_run_b36 fu acc 0 Y1 = some (acc, z_up Y1 119 4 0) := fun fu acc hfu => by
      obtain ⟨fu, rfl⟩ : ∃ q, fu = q + 1 := ⟨fu - 1, by omega⟩
      rw [f_X4_run_b36, if_pos rfl]
    rw [f_X4_run_b36, if_neg (by decide), e, zb_of rfl, a1, zb_of rfl]
    unfold qrD qrC
    rw [← oFeq hw hR]
    by_cases h0 : oF f p a = 0
    · rw [if_pos h0, if_pos h0, if_pos h0]
      unfold f_X4_run_b59
      rw [if_pos h0, Int32.add_zero, fin fu acc (by omega)]
      refine ⟨_, rfl, by rw [z_up_n _ _ _ (by decide)]; exact a2, fun c c1 c2 => by rw [z_up_n _ _ _ c1, kc c c1 c2], fun k k4 k6 k7 k8 k9 => by rw [z_up_s, upd_n k4, kk k k6 k7 k8 k9], by rw [z_up_s, upd_s]⟩
    · rw [if_neg h0, if_neg h0, if_neg h0]
      unfold f_X4_run_b59
      rw [if_neg h0, m_takes hP1 (by decide)]
      by_cases he : n ≤ p + oln f p
      · rw [if_pos he, if_pos he, if_neg (fun q => by have := hP1.lt (lo := 59) (hi := 59) (by decide) q; omega), zb_of rfl, if_pos rfl, fin fu _ (by omega)]
        refine ⟨_, rfl, by rw [z_up_n _ _ _ (by decide)]; exact a2, fun c c1 c2 => by rw [z_up_n _ _ _ c1, kc c c1 c2], fun k k4 k6 k7 k8 k9 => by rw [z_up_s, upd_n k4, kk k k6 k7 k8 k9], by rw [z_up_s, upd_s]⟩
      · rw [if_neg he, if_neg he]
        rcases hn with hn | ⟨_, hs, hn⟩
        · exact absurd hn he
        · rw [if_pos (show (59 : Int32) ≤ f (p + oln f p) ∧ f (p + oln f p) ≤ 59 by rw [hs]; decide), zb_of rfl, hs, if_neg (by decide)]
          obtain ⟨Y2, b1, b2, b3, b4, b5⟩ := ih (p + oln f p + 1) fu (acc + 1) (z_up Y1 119 6 (nI (p + oln f p + 1))) (oA f p a) hn (hP1.pos (by omega)) (by rw [z_up_n _ _ _ (by decide), a2]; exact oRel hw hR) (by omega)
          refine ⟨Y2, b1, ?_, fun c c1 c2 => by rw [b3 c c1 c2, z_up_n _ _ _ c1, kc c c1 c2], fun k k4 k6 k7 k8 k9 => by rw [b4 k k4 k6 k7 k8 k9, z_up_s, upd_n k6, kk k k6 k7 k8 k9], b5⟩
          rw [b2, z_up_n _ _ _ (by decide), a2]
theorem L_run {μ : Mm} (hJ : J μ) : Good2 f_L_run f_X4_run μ := by
  obtain ⟨n, hT⟩ := hJ.2.2.2.1
  have hX := hT.tx
  have hn60 := hT.1
  have hcw : f_X0_areWhole μ = some (if qok (jf μ n) n 61 0 = true then 1 else 0, μ) := c_aw hX 61 0 z_F (by omega) (Nat.zero_le n) (by decide)
  have hPS : ∀ κ : Mm, κ 119 4 = μ 119 4 → κ 122 = μ 122 → PS (z_up κ 119 6 0) (jf μ n) n 0 := fun κ k4 k122 => ⟨by rw [z_up_s, upd_s]; rfl, by rw [z_up_s, upd_n (by decide), k4]; exact hT.2.2.1, hT.1, Nat.zero_le n, fun j hj => by rw [z_up_n _ _ _ (by decide), k122, ← (hT.2.2.2 j hj).1]; exact (if_pos hj).symm, hX.2.2.2⟩
  by_cases hk : qok (jf μ n) n 61 0 = true
  · obtain ⟨μ1, e, q1, q2, q3, H⟩ := J_op hJ (A := qrA (jf μ n) n 61 0) (D := qrD (jf μ n) n 61 0) (fun b hb _ _ => qr_rel 61 0 _ _ hk hb) (fun b j hj => qr_hi 61 0 b hk j hj)
    obtain ⟨W, w1, w2, w3⟩ := c_dos 61 0 z_F 0 μ1 hk (hX.kept (q2 _ (by decide) (by decide)) (q2 _ (by decide) (by decide))) (by decide)
    rw [q3] at w1 w2
    obtain ⟨μ', hμ'⟩ : ∃ μ' : Mm, μ' = z_up (z_up W 94 1 0) 125 0 (qrC (jf μ n) n 61 0 (V μ 0) 0) := ⟨_, rfl⟩
    have kμ' : ∀ c, 10 ≤ c → c ≠ 94 → c ≠ 125 → μ' c = μ1 c := fun c c1 c2 c3 => by rw [hμ', z_up_n _ _ _ c3, z_up_n _ _ _ c2, w3 c c1]
    have hP0 := hPS μ' (by rw [kμ' 119 (by decide) (by decide) (by decide), q2 119 (by decide) (by decide)]) (by rw [kμ' 122 (by decide) (by decide) (by decide), q2 122 (by decide) (by decide)])
    obtain ⟨ν0, q, f1, f2⟩ := m_err 61 0 z_F _ hP0 (by omega) (by decide)
    rw [if_pos hk] at f1
    have kν : ∀ c, c ≠ 119 → g5 ν0 0 c = μ' c := fun c c1 => by rw [g5_n _ _ c1, f2.1 c c1, z_up_n _ _ _ c1]
    have kν9 : ∀ k, k ≠ 5 → k ≠ 6 → k ≠ 7 → k ≠ 8 → k ≠ 9 → g5 ν0 0 119 k = μ' 119 k := fun k k5 k6 k7 k8 k9 => by rw [g5_k _ _ k5, f2.2.1 k k6 k7 k8 k9, z_up_s, upd_n k6]
    obtain ⟨ν1, s1, s2, s3, s4, s5, G⟩ := H (g5 ν0 0) (fun j hj => by
      rw [← w2]
      exact congrFun (V_same (fun c hc => by rw [kν _ (by omega), hμ', z_up_n _ _ _ (by omega), z_up_n _ _ _ (by omega)])) j) (fun c c1 c2 c3 c4 => by rw [kν c c3, kμ' c c1 c2 c4]) (by rw [kν9 1 (by decide) (by decide) (by decide) (by decide) (by decide), kμ' 119 (by decide) (by decide) (by decide)])
    have h4 : ν1 119 4 = μ 119 4 := by rw [s5 4 (by decide), kν9 4 (by decide) (by decide) (by decide) (by decide) (by decide), kμ' 119 (by decide) (by decide) (by decide), q2 119 (by decide) (by decide)]
    have h122 : ν1 122 = μ 122 := by rw [s4 122 (by decide) (by decide), kν 122 (by decide), kμ' 122 (by decide) (by decide) (by decide), q2 122 (by decide) (by decide)]
    obtain ⟨Y, y1, y2, y3, y4, y5⟩ := m_run36 61 0 z_F 0 (z_up ν1 119 6 0) (V μ 0) hk (hPS ν1 h4 h122) (by rw [z_up_n _ _ _ (by decide)]; exact hJ.1.congr (fun _ _ => rfl) s2) (by decide)
    have h94 : Y 94 1 = 0 := by rw [y3 94 (by decide) (by decide), z_up_n _ _ _ (by decide), s4 94 (by decide) (by decide), kν 94 (by decide), hμ', z_up_n _ _ _ (by decide), z_up_s, upd_s]
    refine ⟨0, μ', qrC (jf μ n) n 61 0 (V μ 0) 0, Y, ?_, ?_, ?_, fun _ => ?_, ?_⟩
    · unfold f_L_run f_X3_run
      rw [hcw, zb_of rfl, if_pos hk, if_neg (by decide), e, zb_of rfl]
      unfold f_X3_doOrders
      rw [show f_X3_doOrders_b4 z_F 0 0 μ1 = _ from w1, zb_of rfl, hμ']
      rfl
    · unfold f_X4_run f_X4_error f_X4_run_b14
      rw [f1, zb_of rfl, if_pos rfl, m_go11, zb_of rfl, if_neg (by decide), s1, zb_of rfl, y1]
    · rw [y4 5 (by decide) (by decide) (by decide) (by decide) (by decide), z_up_s, upd_n (by decide), s5 5 (by decide), g5_5]
    · rw [y3 125 (by decide) (by decide), z_up_n _ _ _ (by decide), s4 125 (by decide) (by decide), kν 125 (by decide), hμ', z_up_s, upd_s]
    · refine G Y (fun c c1 c2 => by rw [y3 c c1 c2, z_up_n _ _ _ c1]) (by rw [y4 1 (by decide) (by decide) (by decide) (by decide) (by decide), z_up_s, upd_n (by decide)]) (by rw [y2, z_up_n _ _ _ (by decide)]) ⟨0, by decide, h94, y5, fun j hj => by omega⟩
  · obtain ⟨ν, q, f1, f2⟩ := m_err 61 0 z_F _ (hPS μ rfl rfl) (by omega) (by decide)
    rw [if_neg hk] at f1
    have hle := qfe_le hX.2.2.2 61 0 (Nat.zero_le n)
    have hJν : J ν := hJ.scr (fun c c1 c2 c3 c4 c5 => by rw [f2.1 c c1, z_up_n _ _ _ c1]) (by rw [f2.2.1 1 (by decide) (by decide) (by decide) (by decide), z_up_s, upd_n (by decide)]) (by rw [f2.2.1 4 (by decide) (by decide) (by decide) (by decide), z_up_s, upd_n (by decide)])
    refine ⟨1, μ, 0, g5 ν 1, ?_, ?_, g5_5 _ _, fun h => absurd h (by decide), hJν.g5 1⟩
    · unfold f_L_run f_X3_run
      rw [hcw, zb_of rfl, if_neg hk, if_pos rfl]; rfl
    · unfold f_X4_run f_X4_error f_X4_run_b14
      rw [f1, zb_of rfl, if_neg (pneg (by omega)), m_go0, zb_of rfl, if_pos rfl]
