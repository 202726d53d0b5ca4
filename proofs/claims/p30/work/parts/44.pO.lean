/-! PURE: chains by steps -/
theorem lp_add {α : Type} {f : Nat → α → α} : ∀ (m n k : Nat) (a : α), lp f (m + n) k a = lp f n (k + m) (lp f m k a) := by
  intro m
  induction m with
  | zero => intro n k a; rw [Nat.zero_add]; rfl
  | succ m ih =>
    intro n k a
    rw [show m + 1 + n = (m + n) + 1 by omega]
    show lp f (m + n) (k + 1) (f k a) = _
    rw [ih n (k + 1) (f k a), show k + 1 + m = k + (m + 1) by omega]
    rfl
theorem lp_shift {α : Type} {f : Nat → α → α} (c : Nat) : ∀ (m k : Nat) (a : α), lp f m (c + k) a = lp (fun s a => f (c + s) a) m k a := by
  intro m
  induction m with
  | zero => intro k a; rfl
  | succ m ih => intro k a; exact ih (k + 1) (f (c + k) a)
theorem lp_mul {α : Type} {f : Nat → α → α} : ∀ (m d : Nat) (a : α), lp f (101 * m) (101 * d) a = lp (fun d a => lp (fun s a => f (101 * d + s) a) 101 0 a) m d a := by
  intro m
  induction m with
  | zero => intro d a; rfl
  | succ m ih =>
    intro d a
    rw [show 101 * (m + 1) = 101 + 101 * m by omega, lp_add 101 (101 * m) (101 * d) a, show 101 * d + 101 = 101 * (d + 1) by omega, ih]
    show lp _ m (d + 1) (lp f 101 (101 * d + 0) a) = lp _ m (d + 1) (lp (fun s a => f (101 * d + s) a) 101 0 a)
    rw [lp_shift (101 * d) 101 0 a]
theorem lp_skip {α : Type} {f : Nat → α → α} (P : α → Prop) (m k : Nat) (a : α) (h : P a) (hs : ∀ j, k ≤ j → j < k + m → ∀ a, P a → f j a = a) : lp f m k a = a := by
  induction m generalizing k a with
  | zero => rfl
  | succ m ih =>
    show lp f m (k + 1) (f k a) = a
    rw [hs k (Nat.le_refl k) (by omega) a h]
    exact ih (k + 1) a h (fun j h1 h2 => hs j (by omega) (by omega))
def reg (lo hi k : Nat) : Prop := 101 ≤ k ∧ lo ≤ k % 101 ∧ k % 101 ≤ hi
theorem lp_reg {α : Type} {f : Nat → α → α} (P : α → Prop) {lo hi : Nat} (hl : lo ≤ hi) (hh : hi ≤ 100) (a : α) (h : P a) (hP : ∀ k, k < 1010 → ∀ a, P a → P (f k a)) (hs : ∀ k, k < 1010 → ¬ reg lo hi k → ∀ a, P a → f k a = a) :
    lp f 909 101 a = lp (fun d a => lp (fun s a => f (101 * d + s) a) (hi + 1 - lo) lo a) 9 1 a := by
  rw [show (909 : Nat) = 101 * 9 from rfl, show lp f (101 * 9) 101 a = lp f (101 * 9) (101 * 1) a from rfl, lp_mul]
  refine lp_inv2 P _ _ _ h (fun d h1 h2 a ha => ⟨?_, ?_⟩)
  · show lp (fun s a => f (101 * d + s) a) 101 0 a = lp (fun s a => f (101 * d + s) a) (hi + 1 - lo) lo a
    have e1 : lp (fun s a => f (101 * d + s) a) lo 0 a = a := lp_skip P _ _ _ ha (fun j j1 j2 a ha => hs _ (by omega) (by unfold reg; omega) a ha)
    have e2 : P (lp (fun s a => f (101 * d + s) a) (hi + 1 - lo) lo a) := lp_inv P _ _ _ ha (fun j j1 j2 a ha => hP _ (by omega) a ha)
    have e3 := lp_add (f := fun s a => f (101 * d + s) a) lo (hi + 1 - lo + (100 - hi)) 0 a
    rw [show lo + (hi + 1 - lo + (100 - hi)) = 101 by omega, e1, Nat.zero_add, lp_add (f := fun s a => f (101 * d + s) a) (hi + 1 - lo) (100 - hi) lo a] at e3
    rw [e3]
    exact lp_skip P _ _ _ e2 (fun j j1 j2 a ha => hs _ (by omega) (by unfold reg; omega) a ha)
  · exact lp_inv P _ _ _ ha (fun j j1 j2 a ha => hP _ (by omega) a ha)
def qe (k l : Nat) : Nat := (qcd (nI (k / 101)) (nI l)).toNatClampNeg
def qi (k l : Nat) : Nat := 101 * qe k l + (k % 101 - qe k l)
def k1 (F : Nat → Int32) (k l : Nat) (T : Nat → Int32) : Nat → Int32 := upd T (qi k l) (qmax (T (qi k l)) (qcc (F k) (nI l) (nI (k % 101)) 0))
def kM (F : Nat → Int32) (k : Nat) (T : Nat → Int32) : Nat → Int32 := if F k = -1 then T else k1 F k 3 (k1 F k 2 (k1 F k 1 T))
def stepF (F : Nat → Int32) : Nat → Int32 := lp (kM F) 909 101 (fun _ => -1)
def mxF (F : Nat → Int32) : Int32 := lp (fun k a => qmax a (F k)) 1010 0 (-1)
def itF : Nat → (Nat → Int32) → Nat → Int32
  | 0, F => F
  | m + 1, F => itF m (stepF F)
def Out (lo hi : Nat) (F : Nat → Int32) : Prop := ∀ k, k < 1010 → ¬ reg lo hi k → F k = -1
theorem qe_b (k l : Nat) : (1 ≤ qe k l ∧ qe k l ≤ 9) ∧ qcd (nI (k / 101)) (nI l) = nI (qe k l) := by
  have h := qcd_b (nI (k / 101)) (nI l)
  unfold qe
  generalize qcd (nI (k / 101)) (nI l) = x at h
  rcases pcase x with h1 | ⟨t, ht, rfl⟩
  · rw [i_lt, i_0] at h1; omega
  · rw [nI_toInt ht] at h
    rw [pcl ht]
    exact ⟨by omega, rfl⟩
theorem qsa_n {s e : Nat} (hs : s < 1000) (he : e < 1000) : qsa (nI s) (nI e) = nI (s - e) := by
  have e1 := i_sub (a := nI s) (b := nI e) (by rw [nI_toInt (by omega), nI_toInt (by omega)]; omega) (by rw [nI_toInt (by omega), nI_toInt (by omega)]; omega)
  rw [nI_toInt (by omega), nI_toInt (by omega)] at e1
  unfold qsa
  split
  · rename_i h
    rw [i_lt, i_0, e1] at h
    rw [i_eq, e1, nI_toInt (by omega)]; omega
  · rename_i h
    rw [i_lt, i_0, e1] at h
    rw [i_eq, i_0, nI_toInt (by omega)]; omega
theorem stepC {F : Nat → Int32} {lo hi : Nat} (hl : lo ≤ hi) (hh : hi ≤ 100) (hO : Out lo hi F) : stepF F = lp (fun d T => lp (fun s T => kM F (101 * d + s) T) (hi + 1 - lo) lo T) 9 1 (fun _ => -1) :=
  lp_reg (fun _ => True) hl hh _ trivial (fun _ _ _ _ => trivial) (fun k hk hr a _ => if_pos (hO k hk hr))
theorem mxC {F : Nat → Int32} {lo hi : Nat} (hl : lo ≤ hi) (hh : hi ≤ 100) (hO : Out lo hi F) : mxF F = lp (fun d a => lp (fun s a => qmax a (F (101 * d + s))) (hi + 1 - lo) lo a) 9 1 (-1) := by
  have hsk : ∀ k, k < 1010 → ¬ reg lo hi k → ∀ a : Int32, -1 ≤ a → qmax a (F k) = a := fun k hk hr a ha => by
    rw [hO k hk hr]; unfold qmax; split
    · rename_i h; rw [i_lt] at h; rw [i_le] at ha; omega
    · rfl
  have h0 : lp (fun k a => qmax a (F k)) 101 0 (-1) = -1 := lp_skip (fun a => -1 ≤ a) _ _ _ (by decide) (fun j j1 j2 a ha => hsk j (by omega) (by unfold reg; omega) a ha)
  unfold mxF
  rw [show (1010 : Nat) = 101 + 909 from rfl, lp_add, h0]
  exact lp_reg (fun a => -1 ≤ a) hl hh _ (by decide) (fun k hk a ha => le_tr ha (le_qmax_l _ _)) hsk
theorem md101 {e x : Nat} (hx : x ≤ 100) : (101 * e + x) % 101 = x ∧ (101 * e + x) / 101 = e := by omega
theorem Out.k1 {lo hi : Nat} {F T : Nat → Int32} {k l : Nat} (hh : hi ≤ 100) (hr : reg lo hi k) (hT : Out (lo - 9) hi T) : Out (lo - 9) hi (k1 F k l T) := by
  intro j hj hn
  have he := (qe_b k l).1
  unfold Jvm.Pilot.CWaxCopiesLaw_law_r5816_32f98e.k1
  rw [upd_n]
  · exact hT j hj hn
  · intro q
    apply hn
    unfold qi at q
    have hm : k % 101 < 101 := Nat.mod_lt _ (by decide)
    have hm2 := md101 (e := qe k l) (x := k % 101 - qe k l) (by omega)
    rw [← q] at hm2
    unfold reg at hr ⊢
    omega
theorem Out.step {lo hi : Nat} {F : Nat → Int32} (hh : hi ≤ 100) (hO : Out lo hi F) : Out (lo - 9) hi (stepF F) := by
  unfold stepF
  refine lp_inv (Out (lo - 9) hi) _ _ _ (fun _ _ _ => rfl) (fun k k1 k2 T hT => ?_)
  unfold kM
  by_cases h : F k = -1
  · rw [if_pos h]; exact hT
  · rw [if_neg h]
    have hr : reg lo hi k := Classical.byContradiction fun q => h (hO k (by omega) q)
    exact ((hT.k1 hh hr).k1 hh hr).k1 hh hr
/-- what the class's rows show -/
def Vis (μ : Mm) (K lo hi : Nat) (T : Nat → Int32) : Prop := ∀ d s, 1 ≤ d → d ≤ 9 → lo ≤ s → s ≤ hi → μ (K + d) s = T (101 * d + s)
def KK (N : Nat) : Nat := 99 + 10 * (N - 97)
theorem c_st31 {ag2 : Int32 → Int32 → Int32 → Mm → Option (Unit × Mm)} {ag11 : Int32 → Int32 → Int32 → Int32 → Mm → Option (Unit × Mm)} {n N d s l : Nat} {x1 x2 x5 : Int32} {μ : Mm} (hN : N = 97 ∨ N = 98) (h1 : μ 96 1 = nI N) (hd : d ≤ 9) (hs : s ≤ 100) (hl : 1 ≤ l ∧ l ≤ 3) (hx : ¬ x5 = -1) :
    f_X1_stepOn_b31 ag2 ag11 (n + 1) x1 x2 (nI d) (nI s) x5 (nI l) μ = f_X1_stepOn_b31 ag2 ag11 n x1 x2 (nI d) (nI s) x5 (nI (l + 1)) (z_up μ (KK N + qe (101 * d + s) l) (s - qe (101 * d + s) l) (qmax (μ (KK N + qe (101 * d + s) l) (s - qe (101 * d + s) l)) (qcc x5 (nI l) (nI s) 0))) := by
  have he := qe_b (101 * d + s) l
  rw [show (101 * d + s) / 101 = d by omega] at he
  have hz : z_rf (μ 96 1) = N := by rw [h1, zrf (by omega)]
  rw [f_X1_stepOn_b31, if_neg (show ¬ 3 < nI l from nI_nlt (a := 3) (by omega) (by omega)), if_neg hx, c_cd, zb_of rfl, he.2, c_sa, zb_of rfl, qsa_n (by omega) (by omega), c_cc _ _ _ _ (nI_le (a := 1) (by omega) (by omega)), zb_of rfl, hz, if_pos hN]
  simp (disch := omega) only [pzix, pcl, if_true, pa1]
  rfl
theorem Vis.k1 {μ : Mm} {K lo hi d s l : Nat} {F T : Nat → Int32} (hh : hi ≤ 100) (hs : s ≤ 100) (hV : Vis μ K lo hi T) (hc : lo ≤ s - qe (101 * d + s) l ∧ s ≤ hi) :
    Vis (z_up μ (K + qe (101 * d + s) l) (s - qe (101 * d + s) l) (qmax (μ (K + qe (101 * d + s) l) (s - qe (101 * d + s) l)) (qcc (F (101 * d + s)) (nI l) (nI s) 0))) K lo hi (k1 F (101 * d + s) l T) := by
  intro d' s' a1 a2 a3 a4
  have he := (qe_b (101 * d + s) l).1
  unfold Jvm.Pilot.CWaxCopiesLaw_law_r5816_32f98e.k1 qi
  rw [show (101 * d + s) % 101 = s by omega]
  generalize qe (101 * d + s) l = e at *
  rw [hV e (s - e) he.1 he.2 hc.1 (by omega)]
  by_cases h1 : d' = e
  · subst h1
    rw [z_up_s]
    by_cases h2 : s' = s - d'
    · subst h2; rw [upd_s, upd_s]
    · rw [upd_n h2, upd_n (by omega)]; exact hV d' s' a1 a2 a3 a4
  · rw [z_up_n _ _ _ (by omega), upd_n (by omega)]; exact hV d' s' a1 a2 a3 a4
theorem c_stl {ag2 : Int32 → Int32 → Int32 → Mm → Option (Unit × Mm)} {ag11 : Int32 → Int32 → Int32 → Int32 → Mm → Option (Unit × Mm)} {N d s lo hi : Nat} {x1 x2 : Int32} {μ : Mm} {F T : Nat → Int32} (hN : N = 97 ∨ N = 98) (h1 : μ 96 1 = nI N) (hd : 1 ≤ d ∧ d ≤ 9) (hs : lo ≤ s ∧ s ≤ hi) (hh : hi ≤ 100) (hV : Vis μ (KK N) (lo - 9) hi T) :
    ∃ ν : Mm, f_X1_stepOn_b31 ag2 ag11 z_F x1 x2 (nI d) (nI s) (F (101 * d + s)) 1 μ = ag11 x1 x2 (nI d) (nI (s + 1)) ν ∧ (∀ c, c ≤ KK N ∨ KK N + 10 ≤ c → ν c = μ c) ∧ Vis ν (KK N) (lo - 9) hi (kM F (101 * d + s) T) := by
  have hK : 99 ≤ KK N := by unfold KK; omega
  by_cases hx : F (101 * d + s) = -1
  · refine ⟨μ, ?_, fun _ _ => rfl, ?_⟩
    · rw [show z_F = 1199 + 1 from rfl, f_X1_stepOn_b31, if_neg (by decide), if_pos hx, pa1]
    · unfold kM; rw [if_pos hx]; exact hV
  · have e1 := (qe_b (101 * d + s) 1).1
    have e2 := (qe_b (101 * d + s) 2).1
    have e3 := (qe_b (101 * d + s) 3).1
    have st := fun (n l : Nat) (μ : Mm) h hl => c_st31 (ag2 := ag2) (ag11 := ag11) (n := n) (l := l) (x1 := x1) (x2 := x2) (μ := μ) hN h hd.2 (show s ≤ 100 by omega) hl hx
    have v1 := hV.k1 (F := F) (d := d) (s := s) (l := 1) hh (by omega) (by omega)
    have v2 := v1.k1 (F := F) (d := d) (s := s) (l := 2) hh (by omega) (by omega)
    have v3 := v2.k1 (F := F) (d := d) (s := s) (l := 3) hh (by omega) (by omega)
    rw [show k1 F (101 * d + s) 3 (k1 F (101 * d + s) 2 (k1 F (101 * d + s) 1 T)) = kM F (101 * d + s) T from (if_neg hx).symm] at v3
    refine ⟨_, ?_, fun c hc => ?_, v3⟩
    · rw [show z_F = 1196 + 1 + 1 + 1 + 1 from rfl, show (1 : Int32) = nI 1 from rfl, st _ 1 _ h1 (by decide), st _ 2 _ (by rw [z_up_n _ _ _ (by omega)]; exact h1) (by decide), st _ 3 _ (by rw [z_up_n _ _ _ (by omega), z_up_n _ _ _ (by omega)]; exact h1) (by decide)]
      rw [f_X1_stepOn_b31, if_pos (show (3 : Int32) < nI (3 + 1) by decide), pa1]
    · rw [z_up_n _ _ _ (by omega), z_up_n _ _ _ (by omega), z_up_n _ _ _ (by omega)]
theorem c_st11 {ag2 : Int32 → Int32 → Int32 → Mm → Option (Unit × Mm)} {B N d lo hi : Nat} {F : Nat → Int32} (hN : N = 97 ∨ N = 98) (hB : B = 97 ∨ B = 98) (hBN : B ≠ N) (hd : 1 ≤ d ∧ d ≤ 9) (hh : hi ≤ 100) : ∀ (m s n : Nat) (μ : Mm) (T : Nat → Int32), s + m = hi + 1 → lo ≤ s → m < n → μ 96 0 = nI B → μ 96 1 = nI N → Vis μ (KK B) lo hi F → Vis μ (KK N) (lo - 9) hi T →
    ∃ ν : Mm, f_X1_stepOn_b11 ag2 n (nI lo) (nI hi) (nI d) (nI s) μ = ag2 (nI lo) (nI hi) (nI (d + 1)) ν ∧ (∀ c, c ≤ KK N ∨ KK N + 10 ≤ c → ν c = μ c) ∧ Vis ν (KK N) (lo - 9) hi (lp (fun s T => kM F (101 * d + s) T) m s T) := by
  intro m
  have hKN : KK N = 99 + 10 * (N - 97) := rfl
  have hKB : KK B = 99 + 10 * (B - 97) := rfl
  induction m with
  | zero =>
    intro s n μ T hs hl hn h0 h1 hF hT
    obtain ⟨n, rfl⟩ : ∃ q, n = q + 1 := ⟨n - 1, by omega⟩
    refine ⟨μ, ?_, fun _ _ => rfl, hT⟩
    rw [f_X1_stepOn_b11, if_pos (nI_lt (by omega) (by omega)), pa1]
  | succ m ih =>
    intro s n μ T hs hl hn h0 h1 hF hT
    obtain ⟨n, rfl⟩ : ∃ q, n = q + 1 := ⟨n - 1, by omega⟩
    have hz : z_rf (μ 96 0) = B := by rw [h0, zrf (by omega)]
    obtain ⟨ν1, a1, a2, a3⟩ := c_stl (ag2 := ag2) (ag11 := f_X1_stepOn_b11 ag2 n) (x1 := nI lo) (x2 := nI hi) (lo := lo) (F := F) (s := s) hN h1 hd ⟨hl, by omega⟩ hh hT
    obtain ⟨ν, b1, b2, b3⟩ := ih (s + 1) n ν1 _ (by omega) (by omega) (by omega) (by rw [a2 _ (by omega)]; exact h0) (by rw [a2 _ (by omega)]; exact h1) (fun d' s' q1 q2 q3 q4 => by rw [a2 _ (by omega)]; exact hF d' s' q1 q2 q3 q4) a3
    refine ⟨ν, ?_, fun c hc => by rw [b2 c hc, a2 c hc], b3⟩
    rw [f_X1_stepOn_b11, if_neg (nI_nlt (by omega) (by omega)), hz, if_pos hB]
    simp (disch := omega) only [pzix, pcl, if_true]
    rw [show 99 + 10 * (B - 97) + d = KK B + d from rfl, hF d s hd.1 hd.2 hl (by omega), a1, b1]
theorem c_st2 {B N lo hi : Nat} {F : Nat → Int32} (hN : N = 97 ∨ N = 98) (hB : B = 97 ∨ B = 98) (hBN : B ≠ N) (hl : lo ≤ hi) (hh : hi ≤ 100) : ∀ (m d n : Nat) (μ : Mm) (T : Nat → Int32), d + m = 10 → 1 ≤ d → m < n → μ 96 0 = nI B → μ 96 1 = nI N → Vis μ (KK B) lo hi F → Vis μ (KK N) (lo - 9) hi T →
    ∃ ν : Mm, f_X1_stepOn_b2 n (nI lo) (nI hi) (nI d) μ = some ((), ν) ∧ (∀ c, c ≤ KK N ∨ KK N + 10 ≤ c → ν c = μ c) ∧ Vis ν (KK N) (lo - 9) hi (lp (fun d T => lp (fun s T => kM F (101 * d + s) T) (hi + 1 - lo) lo T) m d T) := by
  intro m
  have hKN : KK N = 99 + 10 * (N - 97) := rfl
  have hKB : KK B = 99 + 10 * (B - 97) := rfl
  induction m with
  | zero =>
    intro d n μ T hd hd1 hn h0 h1 hF hT
    obtain ⟨n, rfl⟩ : ∃ q, n = q + 1 := ⟨n - 1, by omega⟩
    refine ⟨μ, ?_, fun _ _ => rfl, hT⟩
    rw [f_X1_stepOn_b2, if_pos (show (9 : Int32) < nI d from nI_lt (a := 9) (by omega) (by omega))]
  | succ m ih =>
    intro d n μ T hd hd1 hn h0 h1 hF hT
    obtain ⟨n, rfl⟩ : ∃ q, n = q + 1 := ⟨n - 1, by omega⟩
    obtain ⟨ν1, a1, a2, a3⟩ := c_st11 (ag2 := f_X1_stepOn_b2 n) (lo := lo) (F := F) hN hB hBN (d := d) ⟨hd1, by omega⟩ hh (hi + 1 - lo) lo z_F μ T (by omega) (by omega) (by have : z_F = 1200 := rfl; omega) h0 h1 hF hT
    obtain ⟨ν, b1, b2, b3⟩ := ih (d + 1) n ν1 _ (by omega) (by omega) (by omega) (by rw [a2 _ (by omega)]; exact h0) (by rw [a2 _ (by omega)]; exact h1) (fun d' s' q1 q2 q3 q4 => by rw [a2 _ (by omega)]; exact hF d' s' q1 q2 q3 q4) a3
    refine ⟨ν, ?_, fun c hc => by rw [b2 c hc, a2 c hc], b3⟩
    rw [f_X1_stepOn_b2, if_neg (show ¬ (9 : Int32) < nI d from nI_nlt (a := 9) (by omega) (by omega)), a1, b1]
theorem c_fg11 {ag2 : Nat → Int32 → Int32 → Int32 → Mm → Option (Unit × Mm)} {N d lo hi : Nat} (hN : N = 97 ∨ N = 98) (hd : 1 ≤ d ∧ d ≤ 9) (hh : hi ≤ 100) : ∀ (m s n : Nat) (μ : Mm), s + m = hi + 1 → m < n →
    ∃ ν : Mm, f_X1_forget_b11 ag2 n N (nI lo) (nI hi) (nI d) (nI s) μ = ag2 N (nI lo) (nI hi) (nI (d + 1)) ν ∧ (∀ c, c ≠ KK N + d → ν c = μ c) ∧ (∀ j, s ≤ j → j ≤ hi → ν (KK N + d) j = -1) ∧ ∀ j, j < s → ν (KK N + d) j = μ (KK N + d) j := by
  intro m
  induction m with
  | zero =>
    intro s n μ hs hn
    obtain ⟨n, rfl⟩ : ∃ q, n = q + 1 := ⟨n - 1, by omega⟩
    refine ⟨μ, ?_, fun _ _ => rfl, fun j h1 h2 => by omega, fun _ _ => rfl⟩
    rw [f_X1_forget_b11, if_pos (nI_lt (by omega) (by omega)), pa1]
  | succ m ih =>
    intro s n μ hs hn
    obtain ⟨n, rfl⟩ : ∃ q, n = q + 1 := ⟨n - 1, by omega⟩
    obtain ⟨ν, b1, b2, b3, b4⟩ := ih (s + 1) n (z_up μ (KK N + d) s (-1)) (by omega) (by omega)
    refine ⟨ν, ?_, fun c hc => by rw [b2 c hc, z_up_n _ _ _ hc], fun j h1 h2 => ?_, fun j h => ?_⟩
    · rw [f_X1_forget_b11, if_neg (nI_nlt (by omega) (by omega)), if_pos hN]
      simp (disch := omega) only [pzix, pcl, if_true, pa1]
      exact b1
    · by_cases hj : j = s
      · subst hj; rw [b4 j (by omega), z_up_s, upd_s]
      · exact b3 j (by omega) h2
    · rw [b4 j (by omega), z_up_s, upd_n (by omega)]
theorem c_fg2 {N lo hi : Nat} (hN : N = 97 ∨ N = 98) (hl : lo ≤ hi) (hh : hi ≤ 100) : ∀ (m d n : Nat) (μ : Mm), d + m = 10 → 1 ≤ d → m < n →
    ∃ ν : Mm, f_X1_forget_b2 n N (nI lo) (nI hi) (nI d) μ = some ((), ν) ∧ (∀ c, c < KK N + d ∨ KK N + 10 ≤ c → ν c = μ c) ∧ ∀ d', d ≤ d' → d' ≤ 9 → ∀ j, lo ≤ j → j ≤ hi → ν (KK N + d') j = -1 := by
  intro m
  induction m with
  | zero =>
    intro d n μ hd hd1 hn
    obtain ⟨n, rfl⟩ : ∃ q, n = q + 1 := ⟨n - 1, by omega⟩
    refine ⟨μ, ?_, fun _ _ => rfl, fun d' h1 h2 => by omega⟩
    rw [f_X1_forget_b2, if_pos (show (9 : Int32) < nI d from nI_lt (a := 9) (by omega) (by omega))]
  | succ m ih =>
    intro d n μ hd hd1 hn
    obtain ⟨n, rfl⟩ : ∃ q, n = q + 1 := ⟨n - 1, by omega⟩
    obtain ⟨ν1, a1, a2, a3, _⟩ := c_fg11 (ag2 := f_X1_forget_b2 n) (lo := lo) hN (d := d) ⟨hd1, by omega⟩ hh (hi + 1 - lo) lo z_F μ (by omega) (by have : z_F = 1200 := rfl; omega)
    obtain ⟨ν, b1, b2, b3⟩ := ih (d + 1) n ν1 (by omega) (by omega) (by omega)
    refine ⟨ν, ?_, fun c hc => by rw [b2 c (by omega), a2 c (by omega)], fun d' h1 h2 j h3 h4 => ?_⟩
    · rw [f_X1_forget_b2, if_neg (show ¬ (9 : Int32) < nI d from nI_nlt (a := 9) (by omega) (by omega)), a1, b1]
    · by_cases hj : d' = d
      · subst hj; rw [b2 _ (by omega)]; exact a3 j h3 h4
      · exact b3 d' (by omega) h2 j h3 h4
theorem c_forget {N lo hi : Nat} (hN : N = 97 ∨ N = 98) (hl : lo ≤ hi) (hh : hi ≤ 100) (μ : Mm) : ∃ ν : Mm, f_X1_forget N (nI lo) (nI hi) μ = some ((), ν) ∧ (∀ c, c ≤ KK N ∨ KK N + 10 ≤ c → ν c = μ c) ∧ Vis ν (KK N) lo hi (fun _ => -1) := by
  obtain ⟨ν, a1, a2, a3⟩ := c_fg2 hN hl hh 9 1 z_F μ rfl (by decide) (by decide)
  exact ⟨ν, a1, fun c hc => a2 c (by omega), fun d s h1 h2 h3 h4 => a3 d h1 h2 s h3 h4⟩
theorem c_co15 {ag5 : Int32 → Int32 → Int32 → Int32 → Mm → Option (Int32 × Mm)} {B d lo hi : Nat} {F : Nat → Int32} {μ : Mm} (hB : B = 97 ∨ B = 98) (hd : 1 ≤ d ∧ d ≤ 9) (hh : hi ≤ 100) (h0 : μ 96 0 = nI B) (hF : Vis μ (KK B) lo hi F) : ∀ (m s n : Nat) (a : Int32), s + m = hi + 1 → lo ≤ s → m < n →
    f_X1_clearestOf_b15 ag5 n (nI lo) (nI hi) a (nI d) (nI s) μ = ag5 (nI lo) (nI hi) (lp (fun s a => qmax a (F (101 * d + s))) m s a) (nI (d + 1)) μ := by
  intro m
  induction m with
  | zero =>
    intro s n a hs hl hn
    obtain ⟨n, rfl⟩ : ∃ q, n = q + 1 := ⟨n - 1, by omega⟩
    rw [f_X1_clearestOf_b15, if_pos (nI_lt (by omega) (by omega)), pa1]; rfl
  | succ m ih =>
    intro s n a hs hl hn
    obtain ⟨n, rfl⟩ : ∃ q, n = q + 1 := ⟨n - 1, by omega⟩
    have hz : z_rf (μ 96 0) = B := by rw [h0, zrf (by omega)]
    rw [f_X1_clearestOf_b15, if_neg (nI_nlt (by omega) (by omega)), hz, if_pos hB]
    simp (disch := omega) only [pzix, pcl, if_true, pa1]
    rw [show 99 + 10 * (B - 97) + d = KK B + d from rfl, hF d s hd.1 hd.2 hl (by omega)]
    exact ih (s + 1) n _ (by omega) (by omega) (by omega)
theorem c_co5 {B lo hi : Nat} {F : Nat → Int32} {μ : Mm} (hB : B = 97 ∨ B = 98) (hl : lo ≤ hi) (hh : hi ≤ 100) (h0 : μ 96 0 = nI B) (hF : Vis μ (KK B) lo hi F) : ∀ (m d n : Nat) (a : Int32), d + m = 10 → 1 ≤ d → m < n →
    f_X1_clearestOf_b5 n (nI lo) (nI hi) a (nI d) μ = some (lp (fun d a => lp (fun s a => qmax a (F (101 * d + s))) (hi + 1 - lo) lo a) m d a, μ) := by
  intro m
  induction m with
  | zero =>
    intro d n a hd hd1 hn
    obtain ⟨n, rfl⟩ : ∃ q, n = q + 1 := ⟨n - 1, by omega⟩
    rw [f_X1_clearestOf_b5, if_pos (show (9 : Int32) < nI d from nI_lt (a := 9) (by omega) (by omega))]; rfl
  | succ m ih =>
    intro d n a hd hd1 hn
    obtain ⟨n, rfl⟩ : ∃ q, n = q + 1 := ⟨n - 1, by omega⟩
    rw [f_X1_clearestOf_b5, if_neg (show ¬ (9 : Int32) < nI d from nI_nlt (a := 9) (by omega) (by omega)), c_co15 hB ⟨hd1, by omega⟩ hh h0 hF (hi + 1 - lo) lo z_F a (by omega) (by omega) (by have : z_F = 1200 := rfl; omega)]
    exact ih (d + 1) n _ (by omega) (by omega) (by omega)
theorem c_co {B lo hi : Nat} {F : Nat → Int32} {μ : Mm} (hB : B = 97 ∨ B = 98) (hl : lo ≤ hi) (hh : hi ≤ 100) (h0 : μ 96 0 = nI B) (hF : Vis μ (KK B) lo hi F) (hO : Out lo hi F) : f_X1_clearestOf (nI lo) (nI hi) μ = some (mxF F, μ) := by
  rw [mxC hl hh hO]
  exact c_co5 hB hl hh h0 hF 9 1 z_F (-1) rfl (by decide) (by decide)
theorem c_after {C hi : Nat} (hC : C < 100) (hh : hi ≤ 100) : ∀ (m i n lo B N : Nat) (μ : Mm) (F : Nat → Int32), i + m = C → m < n → lo ≤ hi → (B = 97 ∧ N = 98) ∨ (B = 98 ∧ N = 97) → μ 96 0 = nI B → μ 96 1 = nI N → Vis μ (KK B) lo hi F → Out lo hi F →
    ∃ ν : Mm, f_X1_clearestAfter_b28 n (nI C) (nI hi) (nI lo) (nI i) μ = some (mxF (itF m F), ν) ∧ (∀ c, c < 96 ∨ 119 ≤ c → ν c = μ c) ∧ JB ν := by
  intro m
  induction m with
  | zero =>
    intro i n lo B N μ F hi' hn hl hBN h0 h1 hV hO
    obtain ⟨n, rfl⟩ : ∃ q, n = q + 1 := ⟨n - 1, by omega⟩
    refine ⟨μ, ?_, fun _ _ => rfl, ?_⟩
    · rw [f_X1_clearestAfter_b28, if_pos (ple (by omega) (by omega)), c_co (by omega) hl hh h0 hV hO, zb_of rfl]; rfl
    · rcases hBN with ⟨rfl, rfl⟩ | ⟨rfl, rfl⟩
      · exact Or.inl ⟨h0, h1⟩
      · exact Or.inr ⟨h0, h1⟩
  | succ m ih =>
    intro i n lo B N μ F hi' hn hl hBN h0 h1 hV hO
    obtain ⟨n, rfl⟩ : ∃ q, n = q + 1 := ⟨n - 1, by omega⟩
    have hB : B = 97 ∨ B = 98 := by omega
    have hN : N = 97 ∨ N = 98 := by omega
    have hKN : KK N = 99 + 10 * (N - 97) := rfl
    have hKB : KK B = 99 + 10 * (B - 97) := rfl
    obtain ⟨ν1, a1, a2, a3⟩ := c_forget hN (lo := lo - 9) (hi := hi) (by omega) hh μ
    obtain ⟨ν2, b1, b2, b3⟩ := c_st2 (F := F) hN hB (by omega) hl hh 9 1 z_F ν1 (fun _ => -1) rfl (by decide) (by decide) (by rw [a2 _ (by omega)]; exact h0) (by rw [a2 _ (by omega)]; exact h1) (fun d' s' q1 q2 q3 q4 => by rw [a2 _ (by omega)]; exact hV d' s' q1 q2 q3 q4) a3
    rw [← stepC hl hh hO] at b3
    have k96 : ν2 96 = μ 96 := by rw [b2 _ (by omega), a2 _ (by omega)]
    have hzB : z_rf (ν2 96 0) = B := by rw [k96, h0, zrf (by omega)]
    have hzN : z_rf (ν2 96 1) = N := by rw [k96, h1, zrf (by omega)]
    obtain ⟨ν, c1, c2, c3⟩ := ih (i + 1) n (lo - 9) N B (z_up (z_up ν2 96 0 (nI N)) 96 1 (nI B)) (stepF F) (by omega) (by omega) (by omega) (by omega) (by rw [z_up_s, upd_n (by decide), z_up_s, upd_s]) (by rw [z_up_s, upd_s]) (fun d' s' q1 q2 q3 q4 => by rw [z_up_n _ _ _ (by omega), z_up_n _ _ _ (by omega)]; exact b3 d' s' q1 q2 q3 q4) (hO.step hh)
    refine ⟨ν, ?_, fun c hc => ?_, c3⟩
    · rw [f_X1_clearestAfter_b28, if_neg (pge (by omega) (by omega)), c_sa, zb_of rfl, show (9 : Int32) = nI 9 from rfl, qsa_n (by omega) (by decide), h1, zrf (by omega), a1, zb_of rfl, show f_X1_stepOn (nI lo) (nI hi) ν1 = some ((), ν2) from b1, zb_of rfl, hzN, hzB, if_pos hN, if_pos hB, pa1]
      exact c1
    · rw [c2 c hc, z_up_n _ _ _ (by omega), z_up_n _ _ _ (by omega), b2 _ (by omega), a2 _ (by omega)]
def zF0 (d s : Nat) (c : Int32) : Nat → Int32 := upd (fun _ => -1) (101 * d + s) c
theorem c_steps {μ : Mm} {C d s : Nat} {c : Int32} (hB : JB μ) (hC : C < 100) (hd : 1 ≤ d ∧ d ≤ 9) (hs : s ≤ 100) : ∃ ν : Mm, f_X1_clearestAfter (nI C) (nI d) c (nI s) μ = some (mxF (itF C (zF0 d s c)), ν) ∧ (∀ c, c < 96 ∨ 119 ≤ c → ν c = μ c) ∧ JB ν := by
  obtain ⟨B, N, hBN, h0, h1⟩ : ∃ B N : Nat, ((B = 97 ∧ N = 98) ∨ (B = 98 ∧ N = 97)) ∧ μ 96 0 = nI B ∧ μ 96 1 = nI N := by
    rcases hB with ⟨h0, h1⟩ | ⟨h0, h1⟩
    · exact ⟨97, 98, Or.inl ⟨rfl, rfl⟩, h0, h1⟩
    · exact ⟨98, 97, Or.inr ⟨rfl, rfl⟩, h0, h1⟩
  have hB' : B = 97 ∨ B = 98 := by omega
  have hKB : KK B = 99 + 10 * (B - 97) := rfl
  obtain ⟨ν1, a1, a2, a3⟩ := c_forget hB' (lo := s) (hi := s) (Nat.le_refl s) hs μ
  have hz : z_rf (ν1 96 0) = B := by rw [a2 _ (by omega), h0, zrf (by omega)]
  obtain ⟨ν, c1, c2, c3⟩ := c_after hC hs C 0 z_F s B N (z_up ν1 (KK B + d) s c) (zF0 d s c) (by omega) (by have : z_F = 1200 := rfl; omega) (Nat.le_refl s) hBN (by rw [z_up_n _ _ _ (by omega), a2 _ (by omega)]; exact h0) (by rw [z_up_n _ _ _ (by omega), a2 _ (by omega)]; exact h1)
    (fun d' s' q1 q2 q3 q4 => by
      have hss : s' = s := by omega
      subst hss
      unfold zF0
      by_cases h : d' = d
      · subst h; rw [z_up_s, upd_s, upd_s]
      · rw [z_up_n _ _ _ (by omega), upd_n (by omega)]; exact a3 d' s' q1 q2 q3 q4)
    (fun k hk hr => by
      unfold zF0
      rw [upd_n]
      intro q
      apply hr
      unfold reg
      omega)
  refine ⟨ν, ?_, fun c hc => by rw [c2 c hc, z_up_n _ _ _ (by omega), a2 _ (by omega)], c3⟩
  unfold f_X1_clearestAfter
  rw [h0, zrf (by omega), a1, zb_of rfl, hz, if_pos hB']
  simp (disch := omega) only [pzix, pcl, if_true]
  exact c1
