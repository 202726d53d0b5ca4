/-! PURE: the texts of orders, the reference's reading -/
def PS (μ : Mm) (f : Nat → Int32) (n p : Nat) : Prop := μ 119 6 = nI p ∧ μ 119 4 = nI n ∧ n ≤ 60 ∧ p ≤ n ∧ (∀ j, j < n → μ 122 j = f j) ∧ (∀ j, n ≤ j → f j = 0)
def ORf (μ ν : Mm) (q : Nat) : Prop := (∀ c, c ≠ 119 → ν c = μ c) ∧ (∀ k, k ≠ 6 → k ≠ 7 → k ≠ 8 → k ≠ 9 → ν 119 k = μ 119 k) ∧ ν 119 6 = nI q
theorem ORf.rf {μ : Mm} {q : Nat} (h : μ 119 6 = nI q) : ORf μ μ q := ⟨fun _ _ => rfl, fun _ _ _ _ _ => rfl, h⟩
theorem ORf.up {μ ν : Mm} {q k : Nat} {x : Int32} (h : ORf μ ν q) (hk : k = 7 ∨ k = 8 ∨ k = 9) : ORf μ (z_up ν 119 k x) q :=
  ⟨fun c hc => by rw [z_up_n _ _ _ hc, h.1 c hc], fun j h6 h7 h8 h9 => by rw [z_up_s, upd_n (by omega), h.2.1 j h6 h7 h8 h9], by rw [z_up_s, upd_n (by omega), h.2.2]⟩
theorem ORf.pos {μ ν : Mm} {q q' : Nat} (h : ORf μ ν q) : ORf μ (z_up ν 119 6 (nI q')) q' :=
  ⟨fun c hc => by rw [z_up_n _ _ _ hc, h.1 c hc], fun j h6 h7 h8 h9 => by rw [z_up_s, upd_n h6, h.2.1 j h6 h7 h8 h9], by rw [z_up_s, upd_s]⟩
theorem PS.up {μ : Mm} {f : Nat → Int32} {n p k : Nat} {x : Int32} (h : PS μ f n p) (hk : k = 7 ∨ k = 8 ∨ k = 9) : PS (z_up μ 119 k x) f n p :=
  ⟨by rw [z_up_s, upd_n (by omega)]; exact h.1, by rw [z_up_s, upd_n (by omega)]; exact h.2.1, h.2.2.1, h.2.2.2.1, fun j hj => by rw [z_up_n _ _ _ (by decide)]; exact h.2.2.2.2.1 j hj, h.2.2.2.2.2⟩
theorem PS.pos {μ : Mm} {f : Nat → Int32} {n p q : Nat} (h : PS μ f n p) (hq : q ≤ n) : PS (z_up μ 119 6 (nI q)) f n q :=
  ⟨by rw [z_up_s, upd_s], by rw [z_up_s, upd_n (by decide)]; exact h.2.1, h.2.2.1, hq, fun j hj => by rw [z_up_n _ _ _ (by decide)]; exact h.2.2.2.2.1 j hj, h.2.2.2.2.2⟩
theorem PS.lt {μ : Mm} {f : Nat → Int32} {n p q : Nat} {lo hi : Int32} (h : PS μ f n p) (hlo : 0 < lo) (hf : lo ≤ f q ∧ f q ≤ hi) : q < n := Classical.byContradiction fun k => by
  have h1 := hf.1
  rw [h.2.2.2.2.2 q (by omega), i_le, i_0] at h1
  rw [i_lt, i_0] at hlo
  omega
theorem m_takes {μ : Mm} {f : Nat → Int32} {n p : Nat} {lo hi : Int32} (h : PS μ f n p) (hlo : 0 < lo) : f_X4_takes lo hi μ = if lo ≤ f p ∧ f p ≤ hi then some (f p - lo, z_up μ 119 6 (nI (p + 1))) else some (-1, μ) := by
  obtain ⟨h6, h4, hn, hp, hx, hf⟩ := id h
  unfold f_X4_takes
  rw [h6, h4]
  by_cases he : p = n
  · rw [if_pos (by rw [he]), if_neg (fun q => by have := h.lt hlo q; omega)]
  · rw [if_neg (fun q => he ((pinj (by omega) (by omega)).mp q))]
    simp (disch := omega) only [pzix, pcl, if_true]
    rw [hx p (by omega), m_in, zb_of rfl]
    by_cases hr : lo ≤ f p ∧ f p ≤ hi
    · rw [if_pos hr, if_pos hr, if_neg (by decide), h6, pa1, z_up_s, upd_s, nI_pred]
      simp (disch := omega) only [pzix, pcl, if_true]
      rw [z_up_n _ _ _ (by decide), hx p (by omega)]
    · rw [if_neg hr, if_neg hr, if_pos rfl]
def ocl (f : Nat → Int32) (p : Nat) : Nat := (f p - 97).toNatClampNeg
def odg (f : Nat → Int32) (p : Nat) : Nat := (f p - 48).toNatClampNeg
def otk (f : Nat → Int32) (p : Nat) : Nat := 4 * ocl f p + odg f (p + 1)
theorem sub_nat {x lo : Int32} {N : Nat} (h0 : 0 ≤ lo.toInt) (h : lo.toInt ≤ x.toInt ∧ x.toInt ≤ lo.toInt + (N : Int)) : (x - lo).toNatClampNeg ≤ N ∧ x - lo = nI (x - lo).toNatClampNeg := by
  have hx := Int32.toInt_lt x
  have e := i_sub (a := x) (b := lo) (by omega) (by omega)
  obtain ⟨t, ht, ht3, et⟩ := of_b (x := x - lo) (B := N) (by omega)
  rw [et, pcl ht3]
  exact ⟨ht, rfl⟩
theorem ocl_b {f : Nat → Int32} {p : Nat} (h : fok 65 (f p)) : ocl f p < 6 ∧ f p - 97 = nI (ocl f p) := by
  have h1 : (97 : Int32) ≤ f p := h.1
  have h2 : f p ≤ (102 : Int32) := h.2
  rw [i_le] at h1 h2
  have := sub_nat (x := f p) (lo := 97) (N := 5) (by decide) ⟨h1, h2⟩
  exact ⟨by have := this.1; unfold ocl; omega, this.2⟩
theorem odg_b {f : Nat → Int32} {p : Nat} (h : fok 68 (f p)) : odg f p < 4 ∧ f p - 48 = nI (odg f p) := by
  have h1 : (48 : Int32) ≤ f p := h.1
  have h2 : f p ≤ (51 : Int32) := h.2
  rw [i_le] at h1 h2
  have := sub_nat (x := f p) (lo := 48) (N := 3) (by decide) ⟨h1, h2⟩
  exact ⟨by have := this.1; unfold odg; omega, this.2⟩
theorem otk_b {f : Nat → Int32} {p : Nat} (h : fok 65 (f p)) (h2 : fok 68 (f (p + 1))) : otk f p < 24 := by
  have := (ocl_b h).1
  have := (odg_b h2).1
  unfold otk; omega
theorem z_up_up (μ : Mm) (k j : Nat) (x y : Int32) : z_up (z_up μ k j x) k j y = z_up μ k j y := by
  funext a b
  by_cases h : a = k
  · subst h
    rw [z_up_s, z_up_s, z_up_s]
    by_cases hb : b = j
    · rw [hb, upd_s, upd_s]
    · rw [upd_n hb, upd_n hb, upd_n hb]
  · rw [z_up_n _ _ _ h, z_up_n _ _ _ h, z_up_n _ _ _ h]
theorem m_rt {μ : Mm} {f : Nat → Int32} {n p : Nat} (h : PS μ f n p) : f_X4_readsTrack μ = if fok 65 (f p) then (if fok 68 (f (p + 1)) then some (nI (otk f p), z_up μ 119 6 (nI (p + 2))) else some (-1, z_up μ 119 6 (nI (p + 1)))) else some (-1, μ) := by
  unfold f_X4_readsTrack
  rw [m_takes h (by decide)]
  by_cases h1 : fok 65 (f p)
  · have hp : p < n := h.lt (lo := 97) (hi := 102) (by decide) h1
    rw [if_pos h1, if_pos (show (97 : Int32) ≤ f p ∧ f p ≤ 102 from h1), zb_of rfl, (ocl_b h1).2, if_neg (pneg (by have := (ocl_b h1).1; omega)), m_takes (h.pos (q := p + 1) hp) (by decide)]
    by_cases h2 : fok 68 (f (p + 1))
    · rw [if_pos h2, if_pos (show (48 : Int32) ≤ f (p + 1) ∧ f (p + 1) ≤ 51 from h2), zb_of rfl, (odg_b h2).2]
      unfold f_X4_readsTrack_b26
      rw [if_neg (pneg (by have := (odg_b h2).1; omega)), p4m, padd, z_up_up]
      rfl
    · rw [if_neg h2, if_neg (show ¬ ((48 : Int32) ≤ f (p + 1) ∧ f (p + 1) ≤ 51) from h2), zb_of rfl]
      rfl
  · rw [if_neg h1, if_neg (show ¬ ((97 : Int32) ≤ f p ∧ f p ≤ 102) from h1), zb_of rfl, if_pos rfl]
    rfl
/-- what is read of an order -/
def ARG (f : Nat → Int32) (p : Nat) (ν : Mm) : Prop := (f p = 99 → ν 119 7 = nI (otk f (p + 1)) ∧ ν 119 8 = nI (otk f (p + 4)) ∧ ν 119 9 = f (p + 7) - 49) ∧ (f p = 112 → ν 119 7 = nI (otk f (p + 1))) ∧ (f p = 115 → ν 119 7 = nI (otk f (p + 1)) ∧ ν 119 8 = f (p + 4) - 49) ∧ (f p = 120 → ν 119 7 = nI (ocl f (p + 1)))
def ORD (μ : Mm) (f : Nat → Int32) (p : Nat) : Prop := ∃ ν : Mm, f_X4_order μ = some (if owh f p then f p else 32, ν) ∧ ORf μ ν (p + ort f p) ∧ (owh f p → ARG f p ν)
theorem ord_c {μ : Mm} {f : Nat → Int32} {n p : Nat} (h : PS μ f n p) (hp : p < n) : f_X4_order μ = f_X4_order_b25 (f p) μ := by
  obtain ⟨h6, h4, hn, _, hx, hf⟩ := id h
  unfold f_X4_order
  rw [h6, h4, if_neg (pge hp (by omega))]
  simp (disch := omega) only [pzix, pcl, if_true]
  rw [hx p hp]
theorem ord_fail {μ ν : Mm} {f : Nat → Int32} {p r : Nat} (he : f_X4_order μ = some (32, ν)) (ho : ORf μ ν (p + r)) (hr : ort f p = r) (hw : r < oln f p) : ORD μ f p := by
  have hn : ¬ owh f p := fun q => by have := q.2; omega
  exact ⟨ν, by rw [if_neg hn]; exact he, by rw [hr]; exact ho, fun q => absurd q hn⟩
theorem ord_none {μ : Mm} {f : Nat → Int32} {n p : Nat} (h : PS μ f n p) (hk : fk (f p) = 5) : ORD μ f p := by
  have ho : ort f p = 0 := by unfold ort; rw [hk]; rfl
  have hl : oln f p = 0 := by unfold oln; rw [hk]; rfl
  have hn : ¬ owh f p := fun q => by have := q.1; omega
  have hc : ∀ c : Int32, ¬ c = 99 → ¬ c = 112 → ¬ c = 115 → ¬ c = 119 → ¬ c = 120 → f_X4_order_b25 c μ = some (32, z_up μ 119 6 (nI p)) := fun c a1 a2 a3 a4 a5 => by
    unfold f_X4_order_b25
    rw [if_neg a1, if_neg a2, if_neg a3, if_neg a4, if_neg a5, z_up_up, z_up_s, upd_s, h.1, pa1, nI_pred]
  have hne : ¬ f p = 99 ∧ ¬ f p = 112 ∧ ¬ f p = 115 ∧ ¬ f p = 119 ∧ ¬ f p = 120 := by
    refine ⟨fun q => ?_, fun q => ?_, fun q => ?_, fun q => ?_, fun q => ?_⟩ <;> rw [q] at hk <;> exact absurd hk (by decide)
  refine ⟨z_up μ 119 6 (nI p), ?_, by rw [ho]; exact (ORf.rf h.1).pos, fun q => absurd q hn⟩
  rw [if_neg hn]
  by_cases hp : p < n
  · rw [ord_c h hp]; exact hc _ hne.1 hne.2.1 hne.2.2.1 hne.2.2.2.1 hne.2.2.2.2
  · unfold f_X4_order
    rw [h.1, h.2.1, if_pos (ple (by omega) (by have := h.2.2.1; have := h.2.2.2.1; omega))]
    exact hc 32 (by decide) (by decide) (by decide) (by decide) (by decide)
theorem lt_of_ne {μ : Mm} {f : Nat → Int32} {n p : Nat} {x : Int32} (h : PS μ f n p) (hx : f p = x) (h0 : ¬ x = 0) : p < n := Classical.byContradiction fun q => h0 (by rw [← hx, h.2.2.2.2.2 p (by omega)])
theorem ord_w {μ : Mm} {f : Nat → Int32} {n p : Nat} (h : PS μ f n p) (hc : f p = 119) : ORD μ f p := by
  have hp := lt_of_ne h hc (by decide)
  have hk : fk (f p) = 4 := by rw [hc]; rfl
  have hl : oln f p = 1 := by unfold oln; rw [hk]; rfl
  have ho : ort f p = 1 := by
    unfold ort; rw [hk]
    exact if_pos (by rw [hc]; decide)
  have hw : owh f p := ⟨by omega, by omega⟩
  refine ⟨z_up μ 119 6 (nI (p + 1)), ?_, by rw [ho]; exact (ORf.rf h.1).pos, fun _ => ⟨fun q => ?_, fun q => ?_, fun q => ?_, fun q => ?_⟩⟩
  · rw [ord_c h hp, if_pos hw, hc]
    unfold f_X4_order_b25
    rw [if_neg (by decide), if_neg (by decide), if_neg (by decide), if_pos rfl, if_pos (show narrow .char (.int 119) = .int 119 from rfl), h.1, pa1]
  all_goals (rw [hc] at q; exact absurd q (by decide))
theorem ord_x {μ : Mm} {f : Nat → Int32} {n p : Nat} (h : PS μ f n p) (hc : f p = 120) : ORD μ f p := by
  have hp := lt_of_ne h hc (by decide)
  have hk : fk (f p) = 3 := by rw [hc]; rfl
  have hl : oln f p = 2 := by unfold oln; rw [hk]; rfl
  have h0 : fok 120 (f p) := by rw [hc]; decide
  have ho : ort f p = (if fok 120 (f p) then 1 + (if fok 65 (f (p + 1)) then 1 + 0 else 0) else 0) := by unfold ort; rw [hk]; rfl
  rw [if_pos h0] at ho
  have P1 := h.pos (q := p + 1) hp
  have e1 : f_X4_order μ = _ := ord_c h hp
  rw [hc] at e1
  unfold f_X4_order_b25 at e1
  rw [if_neg (by decide), if_neg (by decide), if_neg (by decide), if_neg (by decide), if_pos rfl, h.1, pa1, m_takes P1 (by decide)] at e1
  by_cases hA : fok 65 (f (p + 1))
  · rw [if_pos (show (97 : Int32) ≤ f (p + 1) ∧ f (p + 1) ≤ 102 from hA), zb_of rfl, z_up_s, upd_s, (ocl_b hA).2, if_neg (pneg (by have := (ocl_b hA).1; omega)), if_pos (show narrow .char (.int 120) = .int 120 from rfl), z_up_up] at e1
    rw [if_pos hA] at ho
    have hw : owh f p := ⟨by omega, by omega⟩
    refine ⟨_, by rw [if_pos hw, hc]; exact e1, ?_, fun _ => ⟨fun q => ?_, fun q => ?_, fun q => ?_, fun q => ?_⟩⟩
    · rw [ho]; exact (ORf.rf h.1).pos.up (by decide)
    · rw [hc] at q; exact absurd q (by decide)
    · rw [hc] at q; exact absurd q (by decide)
    · rw [hc] at q; exact absurd q (by decide)
    · rw [z_up_s, upd_s]
  · rw [if_neg (show ¬ ((97 : Int32) ≤ f (p + 1) ∧ f (p + 1) ≤ 102) from hA), zb_of rfl, z_up_s, upd_s, if_pos rfl] at e1
    rw [if_neg hA] at ho
    exact ord_fail e1 ((ORf.rf h.1).pos.up (by decide)) ho (by omega)
theorem ord_p {μ : Mm} {f : Nat → Int32} {n p : Nat} (h : PS μ f n p) (hc : f p = 112) : ORD μ f p := by
  have hp := lt_of_ne h hc (by decide)
  have hk : fk (f p) = 2 := by rw [hc]; rfl
  have hl : oln f p = 3 := by unfold oln; rw [hk]; rfl
  have h0 : fok 112 (f p) := by rw [hc]; decide
  have ho : ort f p = (if fok 112 (f p) then 1 + (if fok 65 (f (p + 1)) then 1 + (if fok 68 (f (p + 2)) then 1 + 0 else 0) else 0) else 0) := by unfold ort; rw [hk]; rfl
  rw [if_pos h0] at ho
  have P1 := h.pos (q := p + 1) hp
  have e1 : f_X4_order μ = _ := ord_c h hp
  rw [hc] at e1
  unfold f_X4_order_b25 at e1
  rw [if_neg (by decide), if_pos rfl, h.1, pa1, m_rt P1] at e1
  by_cases hA : fok 65 (f (p + 1))
  · rw [if_pos hA] at e1 ho
    by_cases hB : fok 68 (f (p + 2))
    · rw [if_pos (show fok 68 (f (p + 1 + 1)) from hB), zb_of rfl, z_up_s, upd_s, if_neg (pneg (by have := otk_b hA hB; omega)), if_pos (show narrow .char (.int 112) = .int 112 from rfl), z_up_up] at e1
      rw [if_pos hB] at ho
      have hw : owh f p := ⟨by omega, by omega⟩
      refine ⟨_, by rw [if_pos hw, hc]; exact e1, ?_, fun _ => ⟨fun q => ?_, fun q => ?_, fun q => ?_, fun q => ?_⟩⟩
      · rw [ho]; exact (ORf.rf h.1).pos.up (by decide)
      · rw [hc] at q; exact absurd q (by decide)
      · rw [z_up_s, upd_s]
      · rw [hc] at q; exact absurd q (by decide)
      · rw [hc] at q; exact absurd q (by decide)
    · rw [if_neg (show ¬ fok 68 (f (p + 1 + 1)) from hB), zb_of rfl, z_up_s, upd_s, if_pos rfl, z_up_up] at e1
      rw [if_neg hB] at ho
      exact ord_fail e1 ((ORf.rf h.1).pos.up (by decide)) ho (by omega)
  · rw [if_neg hA, zb_of rfl, z_up_s, upd_s, if_pos rfl] at e1
    rw [if_neg hA] at ho
    exact ord_fail e1 ((ORf.rf h.1).pos.up (by decide)) ho (by omega)
