/-! p30, PURE: chains: both ways tell the same, a longer one is never clearer -/
def lev (l : Int32) : Prop := l = 1 ∨ l = 2 ∨ l = 3
theorem lev_1 {l : Int32} (h : lev l) : 1 ≤ l.toInt := by rcases h with rfl | rfl | rfl <;> decide
theorem qall_lev (m : Nat) (d c s : Int32) {l : Int32} (h : lev l) : qall m (qcd d l) (qcc c l s 0) (qsa s (qcd d l)) ≤ qall (m + 1) d c s := by
  show _ ≤ qmax (qmax (qmax (-1) (qall m (qcd d 1) (qcc c 1 s 0) (qsa s (qcd d 1)))) (qall m (qcd d 2) (qcc c 2 s 0) (qsa s (qcd d 2)))) (qall m (qcd d 3) (qcc c 3 s 0) (qsa s (qcd d 3)))
  rcases h with rfl | rfl | rfl
  · exact le_tr (le_qmax_r _ _) (le_tr (le_qmax_l _ _) (le_qmax_l _ _))
  · exact le_tr (le_qmax_r _ _) (le_qmax_l _ _)
  · exact le_qmax_r _ _
theorem qall_att (m : Nat) (d c s : Int32) : qall (m + 1) d c s = -1 ∨ ∃ l, lev l ∧ qall (m + 1) d c s = qall m (qcd d l) (qcc c l s 0) (qsa s (qcd d l)) := by
  show qmax (qmax (qmax (-1) (qall m (qcd d 1) (qcc c 1 s 0) (qsa s (qcd d 1)))) (qall m (qcd d 2) (qcc c 2 s 0) (qsa s (qcd d 2)))) (qall m (qcd d 3) (qcc c 3 s 0) (qsa s (qcd d 3))) = -1 ∨ ∃ l, lev l ∧ qmax (qmax (qmax (-1) (qall m (qcd d 1) (qcc c 1 s 0) (qsa s (qcd d 1)))) (qall m (qcd d 2) (qcc c 2 s 0) (qsa s (qcd d 2)))) (qall m (qcd d 3) (qcc c 3 s 0) (qsa s (qcd d 3))) = _
  rcases qmax_or (qmax (qmax (-1) (qall m (qcd d 1) (qcc c 1 s 0) (qsa s (qcd d 1)))) (qall m (qcd d 2) (qcc c 2 s 0) (qsa s (qcd d 2)))) (qall m (qcd d 3) (qcc c 3 s 0) (qsa s (qcd d 3))) with e | e
  · rw [e]
    rcases qmax_or (qmax (-1) (qall m (qcd d 1) (qcc c 1 s 0) (qsa s (qcd d 1)))) (qall m (qcd d 2) (qcc c 2 s 0) (qsa s (qcd d 2))) with e | e
    · rw [e]
      rcases qmax_or (-1) (qall m (qcd d 1) (qcc c 1 s 0) (qsa s (qcd d 1))) with e | e
      · exact Or.inl e
      · exact Or.inr ⟨1, Or.inl rfl, e⟩
    · exact Or.inr ⟨2, Or.inr (Or.inl rfl), e⟩
  · exact Or.inr ⟨3, Or.inr (Or.inr rfl), e⟩
theorem i_m1 : (-1 : Int32).toInt = -1 := by decide
theorem qall_nn : ∀ (m : Nat) (d c s : Int32), 0 ≤ c.toInt → 0 ≤ (qall m d c s).toInt := by
  intro m
  induction m with
  | zero => intro d c s h; exact h
  | succ m ih =>
    intro d c s h
    have h1 := ih (qcd d 1) (qcc c 1 s 0) (qsa s (qcd d 1)) (qcc_0 _ _ _ _)
    have h2 := qall_lev m d c s (l := 1) (Or.inl rfl)
    rw [i_le] at h2
    omega
theorem qcc_le {c l s : Int32} (hc : 0 ≤ c.toInt ∧ c.toInt ≤ 100) (hl : lev l) (hs : 0 ≤ s.toInt ∧ s.toInt ≤ 100) : 0 ≤ (qcc c l s 0).toInt ∧ (qcc c l s 0).toInt ≤ c.toInt :=
  qcc_b hc (lev_1 hl) hs (by rw [i_0]; omega)
theorem qcc_mono {c c' l s : Int32} (hc : 0 ≤ c.toInt) (hcc : c.toInt ≤ c'.toInt) (hc' : c'.toInt ≤ 100) (hl : lev l) (hs : 0 ≤ s.toInt ∧ s.toInt ≤ 100) : (qcc c l s 0).toInt ≤ (qcc c' l s 0).toInt := by
  have hb := blunt_b hs
  have hq : 0 ≤ (12 / l).toInt ∧ (12 / l).toInt ≤ 12 := by rcases hl with rfl | rfl | rfl <;> decide
  have e4 := i_sub (a := c) (b := 12 / l) (by omega) (by omega)
  have e5 := i_sub (a := c - 12 / l) (b := (100 - s) / 4) (by omega) (by omega)
  have f4 := i_sub (a := c') (b := 12 / l) (by omega) (by omega)
  have f5 := i_sub (a := c' - 12 / l) (b := (100 - s) / 4) (by omega) (by omega)
  unfold qcc
  rw [Int32.sub_zero, Int32.sub_zero]
  split
  · rename_i h
    rw [i_lt, i_0] at h
    rw [if_pos (show 0 < c' - 12 / l - (100 - s) / 4 by rw [i_lt, i_0]; omega)]
    omega
  · rw [i_0]
    split
    · rename_i h; rw [i_lt, i_0] at h; omega
    · rw [i_0]; omega
theorem qsa_100 {s d : Int32} (hs : 0 ≤ s.toInt ∧ s.toInt ≤ 100) (l : Int32) : 0 ≤ (qsa s (qcd d l)).toInt ∧ (qsa s (qcd d l)).toInt ≤ 100 := by
  have hd := qcd_b d l
  have := qsa_b (s := s) (d := qcd d l) hs.1 (by omega) (by omega) (by omega)
  omega
theorem qall_mono : ∀ (m : Nat) (d c c' s : Int32), 0 ≤ c.toInt → c.toInt ≤ c'.toInt → c'.toInt ≤ 100 → 0 ≤ s.toInt ∧ s.toInt ≤ 100 → (qall m d c s).toInt ≤ (qall m d c' s).toInt := by
  intro m
  induction m with
  | zero => intro d c c' s _ h _ _; exact h
  | succ m ih =>
    intro d c c' s h1 h2 h3 h4
    rcases qall_att m d c s with e | ⟨l, hl, e⟩
    · rw [e, i_m1]
      have := qall_nn (m + 1) d c' s (by omega)
      omega
    · rw [e]
      have b1 := qcc_le (c := c) (l := l) (s := s) ⟨h1, by omega⟩ hl h4
      have b2 := qcc_le (c := c') (l := l) (s := s) ⟨by omega, h3⟩ hl h4
      have h5 := ih (qcd d l) (qcc c l s 0) (qcc c' l s 0) (qsa s (qcd d l)) b1.1 (qcc_mono h1 h2 h3 hl h4) (by omega) (qsa_100 h4 l)
      have h6 := qall_lev m d c' s hl
      rw [i_le] at h6
      omega
theorem qall_step : ∀ (m : Nat) (d c s : Int32), 0 ≤ c.toInt ∧ c.toInt ≤ 100 → 0 ≤ s.toInt ∧ s.toInt ≤ 100 → (qall (m + 1) d c s).toInt ≤ (qall m d c s).toInt := by
  intro m
  induction m with
  | zero =>
    intro d c s hc hs
    show (qall 1 d c s).toInt ≤ c.toInt
    rcases qall_att 0 d c s with e | ⟨l, hl, e⟩
    · rw [e, i_m1]; omega
    · rw [e]; exact (qcc_le hc hl hs).2
  | succ m ih =>
    intro d c s hc hs
    rcases qall_att (m + 1) d c s with e | ⟨l, hl, e⟩
    · rw [e, i_m1]
      have := qall_nn (m + 1) d c s hc.1
      omega
    · rw [e]
      have b1 := qcc_le (c := c) (l := l) (s := s) hc hl hs
      have h5 := ih (qcd d l) (qcc c l s 0) (qsa s (qcd d l)) ⟨b1.1, by omega⟩ (qsa_100 hs l)
      have h6 := qall_lev m d c s hl
      rw [i_le] at h6
      omega
/-! one step over the table -/
abbrev kv (F : Nat → Int32) (k l : Nat) : Int32 := qcc (F k) (nI l) (nI (k % 101)) 0
theorem k1_ge (F : Nat → Int32) (k l : Nat) (T : Nat → Int32) (i : Nat) : T i ≤ k1 F k l T i := by
  unfold k1
  by_cases h : i = qi k l
  · rw [h, upd_s]; exact le_qmax_l _ _
  · rw [upd_n h]; exact Int32.le_refl _
theorem k1_at (F : Nat → Int32) (k l : Nat) (T : Nat → Int32) : kv F k l ≤ k1 F k l T (qi k l) := by
  unfold k1
  rw [upd_s]; exact le_qmax_r _ _
theorem kM_ge (F : Nat → Int32) (k : Nat) (T : Nat → Int32) (i : Nat) : T i ≤ kM F k T i := by
  unfold kM
  by_cases h : F k = -1
  · rw [if_pos h]; exact Int32.le_refl _
  · rw [if_neg h]; exact le_tr (k1_ge F k 1 T i) (le_tr (k1_ge F k 2 _ i) (k1_ge F k 3 _ i))
theorem kM_at {F : Nat → Int32} {k l : Nat} (hF : ¬ F k = -1) (hl : l = 1 ∨ l = 2 ∨ l = 3) (T : Nat → Int32) : kv F k l ≤ kM F k T (qi k l) := by
  unfold kM
  rw [if_neg hF]
  rcases hl with rfl | rfl | rfl
  · exact le_tr (k1_at F k 1 T) (le_tr (k1_ge F k 2 _ _) (k1_ge F k 3 _ _))
  · exact le_tr (k1_at F k 2 _) (k1_ge F k 3 _ _)
  · exact k1_at F k 3 _
theorem lpM_ge (F : Nat → Int32) : ∀ (m k : Nat) (T : Nat → Int32) (i : Nat), T i ≤ lp (kM F) m k T i := by
  intro m
  induction m with
  | zero => intro k T i; exact Int32.le_refl _
  | succ m ih => intro k T i; exact le_tr (kM_ge F k T i) (ih (k + 1) (kM F k T) i)
theorem lpM_at {F : Nat → Int32} {l : Nat} (hl : l = 1 ∨ l = 2 ∨ l = 3) : ∀ (m k : Nat) (T : Nat → Int32) (j : Nat), k ≤ j → j < k + m → ¬ F j = -1 → kv F j l ≤ lp (kM F) m k T (qi j l) := by
  intro m
  induction m with
  | zero => intro k T j h1 h2; omega
  | succ m ih =>
    intro k T j h1 h2 h3
    show _ ≤ lp (kM F) m (k + 1) (kM F k T) (qi j l)
    by_cases hk : j = k
    · subst hk; exact le_tr (kM_at h3 hl T) (lpM_ge F m (j + 1) _ _)
    · exact ih (k + 1) _ j (by omega) (by omega) h3
def Src (F T : Nat → Int32) : Prop := ∀ i, T i = -1 ∨ ∃ k l : Nat, (101 ≤ k ∧ k < 1010) ∧ ¬ F k = -1 ∧ (l = 1 ∨ l = 2 ∨ l = 3) ∧ qi k l = i ∧ T i = kv F k l
theorem Src.k1 {F T : Nat → Int32} (h : Src F T) {k l : Nat} (hk : 101 ≤ k ∧ k < 1010) (hF : ¬ F k = -1) (hl : l = 1 ∨ l = 2 ∨ l = 3) : Src F (k1 F k l T) := fun i => by
  show (Jvm.Pilot.CWaxCopiesLaw_law_r5816_32f98e.k1 F k l T) i = -1 ∨ _
  by_cases hi : i = qi k l
  · have e : (Jvm.Pilot.CWaxCopiesLaw_law_r5816_32f98e.k1 F k l T) i = qmax (T i) (kv F k l) := by
      rw [hi]; unfold Jvm.Pilot.CWaxCopiesLaw_law_r5816_32f98e.k1; rw [upd_s]
    rw [e]
    rcases qmax_or (T i) (kv F k l) with q | q
    · rw [q]; exact h i
    · exact Or.inr ⟨k, l, hk, hF, hl, hi.symm, q⟩
  · have e : (Jvm.Pilot.CWaxCopiesLaw_law_r5816_32f98e.k1 F k l T) i = T i := by
      unfold Jvm.Pilot.CWaxCopiesLaw_law_r5816_32f98e.k1; rw [upd_n hi]
    rw [e]; exact h i
theorem src_step (F : Nat → Int32) : Src F (stepF F) := by
  unfold stepF
  refine lp_inv (Src F) 909 101 _ (fun i => Or.inl rfl) (fun j h1 h2 T hT => ?_)
  unfold kM
  by_cases hF : F j = -1
  · rw [if_pos hF]; exact hT
  · rw [if_neg hF]
    exact ((hT.k1 ⟨h1, by omega⟩ hF (Or.inl rfl)).k1 ⟨h1, by omega⟩ hF (Or.inr (Or.inl rfl))).k1 ⟨h1, by omega⟩ hF (Or.inr (Or.inr rfl))
def Val (F : Nat → Int32) : Prop := ∀ k, k < 1010 → F k = -1 ∨ (101 ≤ k ∧ 0 ≤ (F k).toInt ∧ (F k).toInt ≤ 100)
theorem lev_n {l : Nat} (h : l = 1 ∨ l = 2 ∨ l = 3) : lev (nI l) := by
  rcases h with rfl | rfl | rfl
  · exact Or.inl rfl
  · exact Or.inr (Or.inl rfl)
  · exact Or.inr (Or.inr rfl)
theorem s101 (k : Nat) : 0 ≤ (nI (k % 101)).toInt ∧ (nI (k % 101)).toInt ≤ 100 := by
  rw [nI_toInt (by omega)]; omega
theorem Val.pos {F : Nat → Int32} (h : Val F) {k : Nat} (hk : k < 1010) (hF : ¬ F k = -1) : 101 ≤ k ∧ 0 ≤ (F k).toInt ∧ (F k).toInt ≤ 100 := (h k hk).elim (fun e => absurd e hF) (fun e => e)
theorem Val.step {F : Nat → Int32} (h : Val F) : Val (stepF F) := fun i _ => by
  rcases src_step F i with e | ⟨k, l, hk, hF, hl, hi, e⟩
  · exact Or.inl e
  · have hv := h.pos hk.2 hF
    have hb : 0 ≤ (kv F k l).toInt ∧ (kv F k l).toInt ≤ (F k).toInt := qcc_le (c := F k) (l := nI l) (s := nI (k % 101)) hv.2 (lev_n hl) (s101 k)
    refine Or.inr ⟨?_, by rw [e]; exact hb.1, by rw [e]; omega⟩
    rw [← hi]
    have := (qe_b k l).1.1
    unfold qi
    omega
/-- the best that comes of a table after C steps -/
def GF (C : Nat) (F : Nat → Int32) : Int32 := lp (fun k a => qmax a (if F k = -1 then -1 else qall C (nI (k / 101)) (F k) (nI (k % 101)))) 1010 0 (-1)
theorem GF_ge (C : Nat) (F : Nat → Int32) : (-1 : Int32) ≤ GF C F := (lpmax (fun k => if F k = -1 then -1 else qall C (nI (k / 101)) (F k) (nI (k % 101))) 1010 0 (-1)).1
theorem GF_at (C : Nat) {F : Nat → Int32} {k : Nat} (hk : k < 1010) (hF : ¬ F k = -1) : qall C (nI (k / 101)) (F k) (nI (k % 101)) ≤ GF C F := by
  have := (lpmax (fun k => if F k = -1 then -1 else qall C (nI (k / 101)) (F k) (nI (k % 101))) 1010 0 (-1)).2.1 k (Nat.zero_le _) (by omega)
  rw [if_neg hF] at this
  exact this
theorem GF_att (C : Nat) (F : Nat → Int32) : GF C F = -1 ∨ ∃ k, k < 1010 ∧ ¬ F k = -1 ∧ GF C F = qall C (nI (k / 101)) (F k) (nI (k % 101)) := by
  rcases (lpmax (fun k => if F k = -1 then -1 else qall C (nI (k / 101)) (F k) (nI (k % 101))) 1010 0 (-1)).2.2 with e | ⟨k, _, hk, e⟩
  · exact Or.inl e
  · by_cases hF : F k = -1
    · rw [if_pos hF] at e; exact Or.inl e
    · rw [if_neg hF] at e; exact Or.inr ⟨k, by omega, hF, e⟩
theorem qi_arg {k l : Nat} (C : Nat) (c : Int32) : qall C (nI (qi k l / 101)) c (nI (qi k l % 101)) = qall C (qcd (nI (k / 101)) (nI l)) c (qsa (nI (k % 101)) (qcd (nI (k / 101)) (nI l))) := by
  have hq := qe_b k l
  have hm : (qi k l) % 101 = k % 101 - qe k l ∧ (qi k l) / 101 = qe k l := by
    unfold qi
    exact md101 (e := qe k l) (x := k % 101 - qe k l) (by omega)
  rw [hm.1, hm.2, hq.2, qsa_n (by omega) (by omega)]
theorem GF_step (C : Nat) {F : Nat → Int32} (h : Val F) : GF C (stepF F) = GF (C + 1) F := by
  apply le_an
  · rcases GF_att C (stepF F) with e | ⟨i, hi, hF, e⟩
    · rw [e]; exact GF_ge _ _
    · rcases src_step F i with q | ⟨k, l, hk, hFk, hl, hqi, q⟩
      · exact absurd q hF
      · rw [e, q, ← hqi, qi_arg]
        exact le_tr (qall_lev C _ _ _ (lev_n hl)) (GF_at (C + 1) hk.2 hFk)
  · rcases GF_att (C + 1) F with e | ⟨k, hk, hF, e⟩
    · rw [e]; exact GF_ge _ _
    · have hv := h.pos hk hF
      rw [e]
      rcases qall_att C (nI (k / 101)) (F k) (nI (k % 101)) with q | ⟨l, hl, q⟩
      · rw [q]; exact GF_ge _ _
      · obtain ⟨l, hl3, rfl⟩ : ∃ u : Nat, (u = 1 ∨ u = 2 ∨ u = 3) ∧ l = nI u := by
          rcases hl with rfl | rfl | rfl
          · exact ⟨1, Or.inl rfl, rfl⟩
          · exact ⟨2, Or.inr (Or.inl rfl), rfl⟩
          · exact ⟨3, Or.inr (Or.inr rfl), rfl⟩
        have hat : kv F k l ≤ stepF F (qi k l) := lpM_at hl3 909 101 _ k hv.1 (by omega) hF
        rw [i_le] at hat
        have hb : 0 ≤ (kv F k l).toInt ∧ (kv F k l).toInt ≤ (F k).toInt := qcc_le (c := F k) (l := nI l) (s := nI (k % 101)) hv.2 hl (s101 k)
        have hib := qi_b l hk
        have hne : ¬ stepF F (qi k l) = -1 := fun z => by rw [z, i_m1] at hat; omega
        have hs := h.step.pos hib hne
        have h9 := GF_at C hib hne
        rw [qi_arg] at h9
        rw [q]
        refine le_tr ?_ h9
        rw [i_le]
        exact qall_mono C _ _ _ _ hb.1 hat hs.2.2 (qsa_100 (s101 k) _)
theorem mx_it : ∀ (C : Nat) (F : Nat → Int32), Val F → mxF (itF C F) = GF C F := by
  intro C
  induction C with
  | zero =>
    intro F _
    show mxF F = GF 0 F
    unfold mxF GF
    refine lp_congr _ _ _ (fun j _ _ a => ?_)
    by_cases h : F j = -1
    · rw [if_pos h, h]
    · rw [if_neg h]; rfl
  | succ C ih =>
    intro F h
    show mxF (itF C (stepF F)) = _
    rw [ih _ h.step, GF_step C h]
theorem mx_zF {d s : Nat} {c : Int32} (C : Nat) (hd : 1 ≤ d ∧ d ≤ 9) (hs : s ≤ 100) (hc : 0 ≤ c.toInt ∧ c.toInt ≤ 100) : mxF (itF C (zF0 d s c)) = qall C (nI d) c (nI s) := by
  have hk := md101 (e := d) hs
  have hat : zF0 d s c (101 * d + s) = c := by unfold zF0; rw [upd_s]
  have hn : ∀ k, k ≠ 101 * d + s → zF0 d s c k = -1 := fun k h => by unfold zF0; rw [upd_n h]
  have hc1 : ¬ c = -1 := fun e => by rw [e, i_m1] at hc; omega
  have hV : Val (zF0 d s c) := fun k _ => by
    by_cases h : k = 101 * d + s
    · rw [h, hat]; exact Or.inr ⟨by omega, hc⟩
    · exact Or.inl (hn k h)
  rw [mx_it C _ hV]
  apply le_an
  · rcases GF_att C (zF0 d s c) with e | ⟨k, _, hF, e⟩
    · rw [e, i_le, i_m1]
      have := qall_nn C (nI d) c (nI s) hc.1
      omega
    · have hk2 : k = 101 * d + s := Classical.byContradiction fun q => hF (hn k q)
      rw [e, hk2, hat, hk.1, hk.2]
      exact Int32.le_refl _
  · have := GF_at C (F := zF0 d s c) (k := 101 * d + s) (by omega) (by rw [hat]; exact hc1)
    rw [hat, hk.1, hk.2] at this
    exact this
theorem chain_cut {n : Nat} {a : Nat → Int32} (h : Iv n a) {t C w : Nat} (ht : t < 24) (hw : w < 2) (hc : ¬ qcut a t = 0) : qchain a t C w = qall C (a (22 + 7 * t)) (a (22 + 7 * t + 1)) (a 0) := by
  unfold qchain
  rw [if_neg hc]
  by_cases h0 : w = 0
  · rw [if_pos h0]
    obtain ⟨k1, k2, _, _⟩ := h.1 t ht
    obtain ⟨d, hd, hd3, ed⟩ := of_b (B := 9) k1
    obtain ⟨s, hs, hs3, es⟩ := of_b (B := 100) h.2.1
    have hp := qcut_pos' hc
    rw [ed, nI_toInt hd3] at hp
    rw [ed, es, pcl hd3, pcl hs3]
    exact mx_zF C ⟨by omega, hd⟩ hs ⟨k2.1, by omega⟩
  · rw [if_neg h0]
